/-! ===== odds, mid: pure ===== -/
theorem c_ge0 (x y : Int64) : (nI 0 ≤ lg_cmp x y) = ¬ (x < y) := by
  rw [← c_lt, z_lt, z_le]
  exact propext ⟨fun h => by
    have h : (nI 0).toInt ≤ (lg_cmp x y).toInt := h
    intro h2
    have e : (nI 0).toInt = (0 : Int32).toInt := rfl
    omega, fun h => by
    have e : (nI 0).toInt = (0 : Int32).toInt := rfl
    omega⟩
def wys (v : Nat → Nat) (p s : Nat) : Nat → Nat
  | 0 => 1
  | i + 1 => wys v p s i * (if (v 3).testBit i then (if s.testBit i then 12 - p else p) else 1)
def acs (v : Nat → Nat) : Nat → Nat
  | 0 => 1
  | i + 1 => acs v i * (if (v 3).testBit i then 12 else 1)
theorem wys_le {v : Nat → Nat} {p s : Nat} (hp : p ≤ 12) : ∀ i, wys v p s i ≤ 12 ^ i
  | 0 => Nat.le_refl _
  | i + 1 => by
    have h := wys_le (v := v) (s := s) hp i
    show wys v p s i * _ ≤ 12 ^ i * 12
    apply Nat.mul_le_mul h
    repeat' split
    all_goals omega
theorem acs_le {v : Nat → Nat} : ∀ i, acs v i ≤ 12 ^ i ∧ 1 ≤ acs v i
  | 0 => ⟨Nat.le_refl _, Nat.le_refl _⟩
  | i + 1 => by
    have h := acs_le (v := v) i
    constructor
    · show acs v i * _ ≤ 12 ^ i * 12
      apply Nat.mul_le_mul h.1
      split <;> omega
    · show 1 ≤ acs v i * _
      split
      · omega
      · omega
theorem p12 {i : Nat} (h : i ≤ 6) : 12 ^ i ≤ 2985984 := Nat.le_trans (Nat.pow_le_pow_right (by decide) h) (by decide)
theorem acs_pc {v : Nat → Nat} : ∀ i, acs v i = 12 ^ cntB (fun j => (v 3).testBit j) i
  | 0 => rfl
  | i + 1 => by
    show acs v i * _ = 12 ^ (cntB _ i + _)
    rw [acs_pc i, Nat.pow_add]
    by_cases c : (v 3).testBit i = true
    · rw [if_pos c, if_pos c]
    · rw [if_neg c, if_neg c]
theorem cntB_hi {p : Nat → Bool} {a : Nat} (h : ∀ i, a ≤ i → p i = false) : ∀ d, cntB p (a + d) = cntB p a
  | 0 => rfl
  | d + 1 => by
    show cntB p (a + d) + (if p (a + d) then 1 else 0) = _
    rw [cntB_hi h d, h (a + d) (by omega)]
    rfl
/-- only doors that there are can be bought -/
theorem bt_hist {q : Cs} {v0 lg : Nat → Nat} (hq : okq q v0) : ∀ {n : Nat}, okl q v0 lg n → ∀ i, (hist q v0 lg n 3).testBit i = true → i < q.1
  | 0, _, i, e => by
    have e : (v0 3).testBit i = true := e
    rw [hq.2.2.2.2.2] at e
    simp at e
  | n + 1, hl, i, e => by
    have hl' : okl q v0 lg n := ⟨by have := hl.1; omega, fun h => by have := hl.2.1 h; omega, fun d hd => hl.2.2 d (by omega)⟩
    have ih := bt_hist hq hl'
    have hd := hl.2.2 n (by omega)
    have hD6 := hq.le
    have e : (stepv q (hist q v0 lg n) (lg n) 3).testBit i = true := e
    generalize hist q v0 lg n = v at *
    generalize lg n = x at *
    unfold okd at hd
    unfold stepv at e
    by_cases c6 : x = 6
    · rw [if_pos c6, vup_n (by decide), vup_n (by decide)] at e; exact ih i e
    rw [if_neg c6] at e
    by_cases c7 : x = 7
    · rw [if_pos c7, vup_n (by decide)] at e; exact ih i e
    rw [if_neg c7] at e
    by_cases c24 : 24 ≤ x
    · rw [if_pos c24] at e
      split at e
      · rw [vup_n (by omega)] at e; exact ih i e
      · rw [vup_n (by omega)] at e; exact ih i e
    rw [if_neg c24] at e
    by_cases c16 : 16 ≤ x
    · rw [if_pos c16, vup_n (by decide), vup_s, Nat.testBit_xor, Nat.testBit_and] at e
      refine ih i ?_
      cases h : (v 3).testBit i
      · rw [h] at e; simp at e
      · rfl
    rw [if_neg c16] at e
    by_cases c8 : 8 ≤ x
    · rw [if_pos c8, vup_n (by decide), vup_s, Nat.testBit_or, Bool.or_eq_true, Nat.testBit_two_pow] at e
      rcases e with e | e
      · exact ih i e
      · have : x - 8 = i := by simpa using e
        omega
    rw [if_neg c8, vup_n (by decide), vup_n (by decide)] at e
    exact ih i e
theorem acs_bits {q : Cs} {v : Nat → Nat} (h : ∀ i, (v 3).testBit i = true → i < q.1) (h6 : q.1 ≤ 6) : acs v q.1 = 12 ^ pc (v 3) := by
  rw [acs_pc]
  unfold pc
  have := cntB_hi (p := fun j => (v 3).testBit j) (a := q.1) (fun i hi => by
    cases e : (v 3).testBit i
    · rfl
    · have := h i e; omega) (7 - q.1)
  rw [show q.1 + (7 - q.1) = 7 by omega] at this
  rw [this]
/-- the sums -/
def sG (v : Nat → Nat) (D p : Nat) (w : Nat → Nat) : Nat → Nat
  | 0 => 0
  | s + 1 => if s ^^^ (s &&& v 3) = 0 then sG v D p w s + wys v p s D * w s else sG v D p w s
theorem sG_le {v : Nat → Nat} {D p : Nat} {w : Nat → Nat} (hp : p ≤ 12) (hD : D ≤ 6) (hw : ∀ s, w s ≤ 30) : ∀ s, sG v D p w s ≤ s * 89579520
  | 0 => Nat.zero_le _
  | s + 1 => by
    have h := sG_le (v := v) (D := D) hp hD hw s
    have h1 := Nat.le_trans (wys_le (v := v) (s := s) hp D) (p12 hD)
    have h2 : wys v p s D * w s ≤ 2985984 * 30 := Nat.mul_le_mul h1 (hw s)
    show (if s ^^^ (s &&& v 3) = 0 then _ else _) ≤ _
    rw [Nat.succ_mul]
    split
    · exact Nat.add_le_add h (Nat.le_trans h2 (by decide))
    · exact Nat.le_trans h (Nat.le_add_right _ _)
/-! Euclid -/
def St : Nat → Nat → Nat → Prop
  | 0, _, y => y = 0
  | d + 1, x, y => y = 0 ∨ St d y (x % y)
theorem St_up : ∀ {d x y : Nat}, St d x y → St (d + 1) x y
  | 0, x, y, h => Or.inl h
  | d + 1, x, y, h => by
    rcases h with h | h
    · exact Or.inl h
    · exact Or.inr (St_up h)
theorem St_of : ∀ k x y, y < 2 ^ k → St (2 * k) x y
  | 0, x, y, h => by
    have : y < 1 := h
    show y = 0
    omega
  | k + 1, x, y, h => by
    rw [show 2 * (k + 1) = 2 * k + 1 + 1 by omega]
    by_cases hy : y = 0
    · exact Or.inl hy
    · refine Or.inr ?_
      by_cases hr : x % y = 0
      · exact Or.inl hr
      · refine Or.inr ?_
        have h1 := Nat.mod_lt x (show 0 < y by omega)
        have h2 := Nat.mod_lt y (show 0 < x % y by omega)
        have h3 := Nat.mod_add_div y (x % y)
        have h4 : 1 ≤ y / (x % y) := Nat.div_pos (by omega) (by omega)
        have h5 : x % y * 1 ≤ x % y * (y / (x % y)) := Nat.mul_le_mul_left _ h4
        have h6 : 2 ^ (k + 1) = 2 ^ k * 2 := Nat.pow_succ 2 k
        exact St_of k _ _ (by omega)
section ODDSM
variable (I : I2) (G : G2) (L : Nat)
theorem p_132 {part whole : Nat} (hw : 0 < whole) (hwl : whole < 2 ^ 60) (hpl : part < 2 ^ 60) : ∀ d a b k f, St d a b → k + d ≤ 128 → d < f → a < 2 ^ 60 → b < 2 ^ 60 → 0 < Nat.gcd a b → l132_9 f 0 (lN part) (lN whole) (lN a) (lN b) (nI k) (mk I G L) = some (mk I (g2 (g2 G 0 13 (lN (part / Nat.gcd a b))) 0 14 (lN (whole / Nat.gcd a b))) L) := by
  have fin : ∀ a, 0 < a → a < 2 ^ 60 → b132_45 0 (lN part) (lN whole) (lN a) (mk I G L) = some (mk I (g2 (g2 G 0 13 (lN (part / a))) 0 14 (lN (whole / a))) L) := by
    intro a h0 ha
    have e1 : lN part / lN a = lN (part / a) := pk_lDiv (by omega) h0 (by omega)
    have e2 : lN whole / lN a = lN (whole / a) := pk_lDiv (by omega) h0 (by omega)
    rw [f_b132_45]
    simp (maxSteps := 20000) (disch := omega) only [mk_oc, mk_aw, mk_sI, mk_sL, gi_mk, gg_mk, ↓lt_I, ↓lt_L, ↓bn_some, ↓bq_some, ↓bq_none, ↓bn_none, ↓bq_ite, ↓bn_ite, ↓bq_bind, ↓bn_bind, ↓bq_bq, ↓bn_bq, ↓bq_lt, ↓bn_lt, ↓reduceIte, ↓rb_0_0, ↓rb_0_1, ↓rb_0_2, ↓rb_0_3, ↓rb_0_4, ↓rb_0_5, ↓rb_0_6, ↓rb_0_7, ↓rb_0_8, ↓rb_0_9, ↓rb_0_10, ↓rb_1_0, ↓rb_1_1, ↓rb_1_2, ↓rb_1_3, ↓rb_1_4, ↓rb_1_5, ↓rb_2_0, ↓rb_2_1, ↓rb_2_2, ↓rb_2_3, ↓rb_3_0, ↓rb_3_1, ↓rb_3_2, ↓rb_3_3, ↓rb_3_4, ↓rb_3_5, ↓rb_10_0, ↓rb_10_1, ↓rb_10_2, ↓rb_10_3, ↓rb_10_4, ↓rb_10_5, ↓rb_10_6, ↓rb_10_7, ↓rb_18_0, ↓rb_18_1, ↓rb_18_2, ↓rb_18_3, ↓rb_18_4, ↓rb_18_5, ↓rb_18_6, ↓rb_18_7, ↓rb_26_0, ↓rb_26_1, ↓rb_26_2, ↓rb_28_0, ↓rb_28_1, ↓rb_31_0, ↓rb_31_1, ↓rb_31_2, ↓rb_37_0, ↓rb_39_0, ↓rb_41_0, ↓rb_43_0, ↓rb_45_0, ↓rb_47_0, ↓rb_49_0, ↓rb_51_0, ↓rb_53_0, ↓rb_55_0, ↓rb_57_0, ↓rb_57_1, ↓rb_57_2, ↓rb_57_3, ↓rb_57_4, ↓rb_57_5, ↓rb_57_6, ↓rb_57_7, ↓rb_65_0, ↓rb_65_1, ↓rb_65_2, ↓rb_65_3, ↓rb_65_4, ↓rb_65_5, ↓rb_65_6, ↓rb_65_7, ↓rb_73_0, ↓rb_73_1, ↓rb_73_2, ↓rb_73_3, ↓rb_73_4, ↓rb_73_5, ↓rb_73_6, ↓rb_73_7, ↓rb_81_0, ↓rb_81_1, ↓rb_81_2, ↓rb_81_3, ↓rb_81_6, ↓rb_81_7, ↓rb_81_8, ↓rb_81_10, ↓rb_81_11, ↓rb_81_12, ↓rb_81_17, ↓rb_81_22, ↓rb_81_24, ↓rb_81_25, ↓rb_81_26, ↓rb_81_27, oc_0x, aw_1, aw_2, aw_3, oc_4_6, oc_4_5, oc_4_0, oc_4_1, oc_4_9, oc_4_2, oc_5_6, oc_5_5, oc_5_0, oc_5_1, oc_5_9, oc_5_2, oc_6_6, oc_6_5, oc_6_0, oc_6_1, oc_6_9, oc_6_2, oc_7_6, oc_7_5, oc_7_0, oc_7_1, oc_7_9, oc_7_2, oc_8_6, oc_8_5, oc_8_0, oc_8_1, oc_8_9, oc_8_2, oc_9_6, oc_9_5, oc_9_0, oc_9_1, oc_9_9, oc_9_2, oc_10x, al_11, aw_11, al_12, aw_12, al_13, aw_13, al_14, aw_14, al_15, aw_15, al_16, aw_16, al_17, aw_17, oc_18x, al_19, aw_19, al_20, aw_20, al_21, aw_21, al_22, aw_22, al_23, aw_23, al_24, aw_24, al_25, aw_25, aw_26, oc_27x, oc_28x, al_29, aw_29, al_30, aw_30, oc_31x, al_32, aw_32, al_33, aw_33, al_34, aw_34, al_35, aw_35, al_36, aw_36, oc_57x, al_58, aw_58, al_59, aw_59, al_60, aw_60, al_61, aw_61, al_62, aw_62, al_63, aw_63, al_64, aw_64, oc_65x, al_66, aw_66, al_67, aw_67, al_68, aw_68, al_69, aw_69, al_70, aw_70, al_71, aw_71, al_72, aw_72, oc_73x, al_74, aw_74, al_75, aw_75, al_76, aw_76, al_77, aw_77, al_78, aw_78, al_79, aw_79, al_80, aw_80, oc_81x, al_82, aw_82, al_83, aw_83, al_84, aw_84, al_85, aw_85, al_86, aw_86, al_87, aw_87, al_88, aw_88, al_89, aw_89, al_90, aw_90, aw_91, al_92, aw_92, al_93, aw_93, al_94, aw_94, al_95, aw_95, al_96, aw_96, al_97, aw_97, li_0, li_1, li_2, li_3, li_4, li_5, li_6, li_7, li_8, li_9, li_10, li_11, li_12, li_15, li_16, li_18, li_19, li_20, li_24, li_30, li_31, li_32, li_40, li_48, li_49, li_55, li_56, li_57, li_60, li_63, li_97, li_98, li_99, li_100, li_107, li_110, li_115, li_117, li_600, li_640, li_656, li_657, li_1000, li_2147483646, li_1000000, oc_r, oc_t, oc_k, ↓rb_r, ↓rb_rc, aw_r, al_r, ↓rb_t, ↓rb_tc, aw_t, al_t, ↓rb_k, w2_s, w2_j, w2_k, g2_s, g2_j, g2_k, al_1001, al_1000, e_lt, e_le, e_eq, e_nlt, e_nle, e_ltn, e_len, e_neq, e_eqn, e_nn, e_nlen, e_nltn, nI_add, pk_mul, e_sub, e_subn, e_addn, e_clamp, e_inb, e_inbn, e_dec, lt_ap, ll_0, ll_1, e_llt, e_leq, c_lt0, c_gt0, c_le0, nI_l, lN_add, Bool.false_eq_true, not_true_eq_false, not_false_eq_true, d_lt, d_nlt, d_le, d_nle, d_eq, d_neq, c_ge0, ↓f_b132_55, e1, e2]
  intro d
  induction d with
  | zero =>
    intro a b k f hs h1 h2 h3 h4 h5
    obtain ⟨g, rfl⟩ : ∃ g, f = g + 1 := ⟨f - 1, by omega⟩
    have hb : b = 0 := hs
    subst hb
    rw [Nat.gcd_zero_right] at h5 ⊢
    rw [← fin a h5 h3]
    show b132_9 _ _ _ _ _ _ _ _ = _
    rw [f_b132_9]
    by_cases c : 128 ≤ k
    · simp (maxSteps := 20000) (disch := omega) only [mk_oc, mk_aw, mk_sI, mk_sL, gi_mk, gg_mk, ↓lt_I, ↓lt_L, ↓bn_some, ↓bq_some, ↓bq_none, ↓bn_none, ↓bq_ite, ↓bn_ite, ↓bq_bind, ↓bn_bind, ↓bq_bq, ↓bn_bq, ↓bq_lt, ↓bn_lt, ↓reduceIte, ↓rb_0_0, ↓rb_0_1, ↓rb_0_2, ↓rb_0_3, ↓rb_0_4, ↓rb_0_5, ↓rb_0_6, ↓rb_0_7, ↓rb_0_8, ↓rb_0_9, ↓rb_0_10, ↓rb_1_0, ↓rb_1_1, ↓rb_1_2, ↓rb_1_3, ↓rb_1_4, ↓rb_1_5, ↓rb_2_0, ↓rb_2_1, ↓rb_2_2, ↓rb_2_3, ↓rb_3_0, ↓rb_3_1, ↓rb_3_2, ↓rb_3_3, ↓rb_3_4, ↓rb_3_5, ↓rb_10_0, ↓rb_10_1, ↓rb_10_2, ↓rb_10_3, ↓rb_10_4, ↓rb_10_5, ↓rb_10_6, ↓rb_10_7, ↓rb_18_0, ↓rb_18_1, ↓rb_18_2, ↓rb_18_3, ↓rb_18_4, ↓rb_18_5, ↓rb_18_6, ↓rb_18_7, ↓rb_26_0, ↓rb_26_1, ↓rb_26_2, ↓rb_28_0, ↓rb_28_1, ↓rb_31_0, ↓rb_31_1, ↓rb_31_2, ↓rb_37_0, ↓rb_39_0, ↓rb_41_0, ↓rb_43_0, ↓rb_45_0, ↓rb_47_0, ↓rb_49_0, ↓rb_51_0, ↓rb_53_0, ↓rb_55_0, ↓rb_57_0, ↓rb_57_1, ↓rb_57_2, ↓rb_57_3, ↓rb_57_4, ↓rb_57_5, ↓rb_57_6, ↓rb_57_7, ↓rb_65_0, ↓rb_65_1, ↓rb_65_2, ↓rb_65_3, ↓rb_65_4, ↓rb_65_5, ↓rb_65_6, ↓rb_65_7, ↓rb_73_0, ↓rb_73_1, ↓rb_73_2, ↓rb_73_3, ↓rb_73_4, ↓rb_73_5, ↓rb_73_6, ↓rb_73_7, ↓rb_81_0, ↓rb_81_1, ↓rb_81_2, ↓rb_81_3, ↓rb_81_6, ↓rb_81_7, ↓rb_81_8, ↓rb_81_10, ↓rb_81_11, ↓rb_81_12, ↓rb_81_17, ↓rb_81_22, ↓rb_81_24, ↓rb_81_25, ↓rb_81_26, ↓rb_81_27, oc_0x, aw_1, aw_2, aw_3, oc_4_6, oc_4_5, oc_4_0, oc_4_1, oc_4_9, oc_4_2, oc_5_6, oc_5_5, oc_5_0, oc_5_1, oc_5_9, oc_5_2, oc_6_6, oc_6_5, oc_6_0, oc_6_1, oc_6_9, oc_6_2, oc_7_6, oc_7_5, oc_7_0, oc_7_1, oc_7_9, oc_7_2, oc_8_6, oc_8_5, oc_8_0, oc_8_1, oc_8_9, oc_8_2, oc_9_6, oc_9_5, oc_9_0, oc_9_1, oc_9_9, oc_9_2, oc_10x, al_11, aw_11, al_12, aw_12, al_13, aw_13, al_14, aw_14, al_15, aw_15, al_16, aw_16, al_17, aw_17, oc_18x, al_19, aw_19, al_20, aw_20, al_21, aw_21, al_22, aw_22, al_23, aw_23, al_24, aw_24, al_25, aw_25, aw_26, oc_27x, oc_28x, al_29, aw_29, al_30, aw_30, oc_31x, al_32, aw_32, al_33, aw_33, al_34, aw_34, al_35, aw_35, al_36, aw_36, oc_57x, al_58, aw_58, al_59, aw_59, al_60, aw_60, al_61, aw_61, al_62, aw_62, al_63, aw_63, al_64, aw_64, oc_65x, al_66, aw_66, al_67, aw_67, al_68, aw_68, al_69, aw_69, al_70, aw_70, al_71, aw_71, al_72, aw_72, oc_73x, al_74, aw_74, al_75, aw_75, al_76, aw_76, al_77, aw_77, al_78, aw_78, al_79, aw_79, al_80, aw_80, oc_81x, al_82, aw_82, al_83, aw_83, al_84, aw_84, al_85, aw_85, al_86, aw_86, al_87, aw_87, al_88, aw_88, al_89, aw_89, al_90, aw_90, aw_91, al_92, aw_92, al_93, aw_93, al_94, aw_94, al_95, aw_95, al_96, aw_96, al_97, aw_97, li_0, li_1, li_2, li_3, li_4, li_5, li_6, li_7, li_8, li_9, li_10, li_11, li_12, li_15, li_16, li_18, li_19, li_20, li_24, li_30, li_31, li_32, li_40, li_48, li_49, li_55, li_56, li_57, li_60, li_63, li_97, li_98, li_99, li_100, li_107, li_110, li_115, li_117, li_600, li_640, li_656, li_657, li_1000, li_2147483646, li_1000000, oc_r, oc_t, oc_k, ↓rb_r, ↓rb_rc, aw_r, al_r, ↓rb_t, ↓rb_tc, aw_t, al_t, ↓rb_k, w2_s, w2_j, w2_k, g2_s, g2_j, g2_k, al_1001, al_1000, e_lt, e_le, e_eq, e_nlt, e_nle, e_ltn, e_len, e_neq, e_eqn, e_nn, e_nlen, e_nltn, nI_add, pk_mul, e_sub, e_subn, e_addn, e_clamp, e_inb, e_inbn, e_dec, lt_ap, ll_0, ll_1, e_llt, e_leq, c_lt0, c_gt0, c_le0, nI_l, lN_add, Bool.false_eq_true, not_true_eq_false, not_false_eq_true, d_lt, d_nlt, d_le, d_nle, d_eq, d_neq, li_128, c]
    · simp (maxSteps := 20000) (disch := omega) only [mk_oc, mk_aw, mk_sI, mk_sL, gi_mk, gg_mk, ↓lt_I, ↓lt_L, ↓bn_some, ↓bq_some, ↓bq_none, ↓bn_none, ↓bq_ite, ↓bn_ite, ↓bq_bind, ↓bn_bind, ↓bq_bq, ↓bn_bq, ↓bq_lt, ↓bn_lt, ↓reduceIte, ↓rb_0_0, ↓rb_0_1, ↓rb_0_2, ↓rb_0_3, ↓rb_0_4, ↓rb_0_5, ↓rb_0_6, ↓rb_0_7, ↓rb_0_8, ↓rb_0_9, ↓rb_0_10, ↓rb_1_0, ↓rb_1_1, ↓rb_1_2, ↓rb_1_3, ↓rb_1_4, ↓rb_1_5, ↓rb_2_0, ↓rb_2_1, ↓rb_2_2, ↓rb_2_3, ↓rb_3_0, ↓rb_3_1, ↓rb_3_2, ↓rb_3_3, ↓rb_3_4, ↓rb_3_5, ↓rb_10_0, ↓rb_10_1, ↓rb_10_2, ↓rb_10_3, ↓rb_10_4, ↓rb_10_5, ↓rb_10_6, ↓rb_10_7, ↓rb_18_0, ↓rb_18_1, ↓rb_18_2, ↓rb_18_3, ↓rb_18_4, ↓rb_18_5, ↓rb_18_6, ↓rb_18_7, ↓rb_26_0, ↓rb_26_1, ↓rb_26_2, ↓rb_28_0, ↓rb_28_1, ↓rb_31_0, ↓rb_31_1, ↓rb_31_2, ↓rb_37_0, ↓rb_39_0, ↓rb_41_0, ↓rb_43_0, ↓rb_45_0, ↓rb_47_0, ↓rb_49_0, ↓rb_51_0, ↓rb_53_0, ↓rb_55_0, ↓rb_57_0, ↓rb_57_1, ↓rb_57_2, ↓rb_57_3, ↓rb_57_4, ↓rb_57_5, ↓rb_57_6, ↓rb_57_7, ↓rb_65_0, ↓rb_65_1, ↓rb_65_2, ↓rb_65_3, ↓rb_65_4, ↓rb_65_5, ↓rb_65_6, ↓rb_65_7, ↓rb_73_0, ↓rb_73_1, ↓rb_73_2, ↓rb_73_3, ↓rb_73_4, ↓rb_73_5, ↓rb_73_6, ↓rb_73_7, ↓rb_81_0, ↓rb_81_1, ↓rb_81_2, ↓rb_81_3, ↓rb_81_6, ↓rb_81_7, ↓rb_81_8, ↓rb_81_10, ↓rb_81_11, ↓rb_81_12, ↓rb_81_17, ↓rb_81_22, ↓rb_81_24, ↓rb_81_25, ↓rb_81_26, ↓rb_81_27, oc_0x, aw_1, aw_2, aw_3, oc_4_6, oc_4_5, oc_4_0, oc_4_1, oc_4_9, oc_4_2, oc_5_6, oc_5_5, oc_5_0, oc_5_1, oc_5_9, oc_5_2, oc_6_6, oc_6_5, oc_6_0, oc_6_1, oc_6_9, oc_6_2, oc_7_6, oc_7_5, oc_7_0, oc_7_1, oc_7_9, oc_7_2, oc_8_6, oc_8_5, oc_8_0, oc_8_1, oc_8_9, oc_8_2, oc_9_6, oc_9_5, oc_9_0, oc_9_1, oc_9_9, oc_9_2, oc_10x, al_11, aw_11, al_12, aw_12, al_13, aw_13, al_14, aw_14, al_15, aw_15, al_16, aw_16, al_17, aw_17, oc_18x, al_19, aw_19, al_20, aw_20, al_21, aw_21, al_22, aw_22, al_23, aw_23, al_24, aw_24, al_25, aw_25, aw_26, oc_27x, oc_28x, al_29, aw_29, al_30, aw_30, oc_31x, al_32, aw_32, al_33, aw_33, al_34, aw_34, al_35, aw_35, al_36, aw_36, oc_57x, al_58, aw_58, al_59, aw_59, al_60, aw_60, al_61, aw_61, al_62, aw_62, al_63, aw_63, al_64, aw_64, oc_65x, al_66, aw_66, al_67, aw_67, al_68, aw_68, al_69, aw_69, al_70, aw_70, al_71, aw_71, al_72, aw_72, oc_73x, al_74, aw_74, al_75, aw_75, al_76, aw_76, al_77, aw_77, al_78, aw_78, al_79, aw_79, al_80, aw_80, oc_81x, al_82, aw_82, al_83, aw_83, al_84, aw_84, al_85, aw_85, al_86, aw_86, al_87, aw_87, al_88, aw_88, al_89, aw_89, al_90, aw_90, aw_91, al_92, aw_92, al_93, aw_93, al_94, aw_94, al_95, aw_95, al_96, aw_96, al_97, aw_97, li_0, li_1, li_2, li_3, li_4, li_5, li_6, li_7, li_8, li_9, li_10, li_11, li_12, li_15, li_16, li_18, li_19, li_20, li_24, li_30, li_31, li_32, li_40, li_48, li_49, li_55, li_56, li_57, li_60, li_63, li_97, li_98, li_99, li_100, li_107, li_110, li_115, li_117, li_600, li_640, li_656, li_657, li_1000, li_2147483646, li_1000000, oc_r, oc_t, oc_k, ↓rb_r, ↓rb_rc, aw_r, al_r, ↓rb_t, ↓rb_tc, aw_t, al_t, ↓rb_k, w2_s, w2_j, w2_k, g2_s, g2_j, g2_k, al_1001, al_1000, e_lt, e_le, e_eq, e_nlt, e_nle, e_ltn, e_len, e_neq, e_eqn, e_nn, e_nlen, e_nltn, nI_add, pk_mul, e_sub, e_subn, e_addn, e_clamp, e_inb, e_inbn, e_dec, lt_ap, ll_0, ll_1, e_llt, e_leq, c_lt0, c_gt0, c_le0, nI_l, lN_add, Bool.false_eq_true, not_true_eq_false, not_false_eq_true, d_lt, d_nlt, d_le, d_nle, d_eq, d_neq, li_128, c, c_eq0]
  | succ d ih =>
    intro a b k f hs h1 h2 h3 h4 h5
    obtain ⟨g, rfl⟩ : ∃ g, f = g + 1 := ⟨f - 1, by omega⟩
    by_cases hb : b = 0
    · subst hb
      rw [Nat.gcd_zero_right] at h5 ⊢
      rw [← fin a h5 h3]
      show b132_9 _ _ _ _ _ _ _ _ = _
      rw [f_b132_9]
      simp (maxSteps := 20000) (disch := omega) only [mk_oc, mk_aw, mk_sI, mk_sL, gi_mk, gg_mk, ↓lt_I, ↓lt_L, ↓bn_some, ↓bq_some, ↓bq_none, ↓bn_none, ↓bq_ite, ↓bn_ite, ↓bq_bind, ↓bn_bind, ↓bq_bq, ↓bn_bq, ↓bq_lt, ↓bn_lt, ↓reduceIte, ↓rb_0_0, ↓rb_0_1, ↓rb_0_2, ↓rb_0_3, ↓rb_0_4, ↓rb_0_5, ↓rb_0_6, ↓rb_0_7, ↓rb_0_8, ↓rb_0_9, ↓rb_0_10, ↓rb_1_0, ↓rb_1_1, ↓rb_1_2, ↓rb_1_3, ↓rb_1_4, ↓rb_1_5, ↓rb_2_0, ↓rb_2_1, ↓rb_2_2, ↓rb_2_3, ↓rb_3_0, ↓rb_3_1, ↓rb_3_2, ↓rb_3_3, ↓rb_3_4, ↓rb_3_5, ↓rb_10_0, ↓rb_10_1, ↓rb_10_2, ↓rb_10_3, ↓rb_10_4, ↓rb_10_5, ↓rb_10_6, ↓rb_10_7, ↓rb_18_0, ↓rb_18_1, ↓rb_18_2, ↓rb_18_3, ↓rb_18_4, ↓rb_18_5, ↓rb_18_6, ↓rb_18_7, ↓rb_26_0, ↓rb_26_1, ↓rb_26_2, ↓rb_28_0, ↓rb_28_1, ↓rb_31_0, ↓rb_31_1, ↓rb_31_2, ↓rb_37_0, ↓rb_39_0, ↓rb_41_0, ↓rb_43_0, ↓rb_45_0, ↓rb_47_0, ↓rb_49_0, ↓rb_51_0, ↓rb_53_0, ↓rb_55_0, ↓rb_57_0, ↓rb_57_1, ↓rb_57_2, ↓rb_57_3, ↓rb_57_4, ↓rb_57_5, ↓rb_57_6, ↓rb_57_7, ↓rb_65_0, ↓rb_65_1, ↓rb_65_2, ↓rb_65_3, ↓rb_65_4, ↓rb_65_5, ↓rb_65_6, ↓rb_65_7, ↓rb_73_0, ↓rb_73_1, ↓rb_73_2, ↓rb_73_3, ↓rb_73_4, ↓rb_73_5, ↓rb_73_6, ↓rb_73_7, ↓rb_81_0, ↓rb_81_1, ↓rb_81_2, ↓rb_81_3, ↓rb_81_6, ↓rb_81_7, ↓rb_81_8, ↓rb_81_10, ↓rb_81_11, ↓rb_81_12, ↓rb_81_17, ↓rb_81_22, ↓rb_81_24, ↓rb_81_25, ↓rb_81_26, ↓rb_81_27, oc_0x, aw_1, aw_2, aw_3, oc_4_6, oc_4_5, oc_4_0, oc_4_1, oc_4_9, oc_4_2, oc_5_6, oc_5_5, oc_5_0, oc_5_1, oc_5_9, oc_5_2, oc_6_6, oc_6_5, oc_6_0, oc_6_1, oc_6_9, oc_6_2, oc_7_6, oc_7_5, oc_7_0, oc_7_1, oc_7_9, oc_7_2, oc_8_6, oc_8_5, oc_8_0, oc_8_1, oc_8_9, oc_8_2, oc_9_6, oc_9_5, oc_9_0, oc_9_1, oc_9_9, oc_9_2, oc_10x, al_11, aw_11, al_12, aw_12, al_13, aw_13, al_14, aw_14, al_15, aw_15, al_16, aw_16, al_17, aw_17, oc_18x, al_19, aw_19, al_20, aw_20, al_21, aw_21, al_22, aw_22, al_23, aw_23, al_24, aw_24, al_25, aw_25, aw_26, oc_27x, oc_28x, al_29, aw_29, al_30, aw_30, oc_31x, al_32, aw_32, al_33, aw_33, al_34, aw_34, al_35, aw_35, al_36, aw_36, oc_57x, al_58, aw_58, al_59, aw_59, al_60, aw_60, al_61, aw_61, al_62, aw_62, al_63, aw_63, al_64, aw_64, oc_65x, al_66, aw_66, al_67, aw_67, al_68, aw_68, al_69, aw_69, al_70, aw_70, al_71, aw_71, al_72, aw_72, oc_73x, al_74, aw_74, al_75, aw_75, al_76, aw_76, al_77, aw_77, al_78, aw_78, al_79, aw_79, al_80, aw_80, oc_81x, al_82, aw_82, al_83, aw_83, al_84, aw_84, al_85, aw_85, al_86, aw_86, al_87, aw_87, al_88, aw_88, al_89, aw_89, al_90, aw_90, aw_91, al_92, aw_92, al_93, aw_93, al_94, aw_94, al_95, aw_95, al_96, aw_96, al_97, aw_97, li_0, li_1, li_2, li_3, li_4, li_5, li_6, li_7, li_8, li_9, li_10, li_11, li_12, li_15, li_16, li_18, li_19, li_20, li_24, li_30, li_31, li_32, li_40, li_48, li_49, li_55, li_56, li_57, li_60, li_63, li_97, li_98, li_99, li_100, li_107, li_110, li_115, li_117, li_600, li_640, li_656, li_657, li_1000, li_2147483646, li_1000000, oc_r, oc_t, oc_k, ↓rb_r, ↓rb_rc, aw_r, al_r, ↓rb_t, ↓rb_tc, aw_t, al_t, ↓rb_k, w2_s, w2_j, w2_k, g2_s, g2_j, g2_k, al_1001, al_1000, e_lt, e_le, e_eq, e_nlt, e_nle, e_ltn, e_len, e_neq, e_eqn, e_nn, e_nlen, e_nltn, nI_add, pk_mul, e_sub, e_subn, e_addn, e_clamp, e_inb, e_inbn, e_dec, lt_ap, ll_0, ll_1, e_llt, e_leq, c_lt0, c_gt0, c_le0, nI_l, lN_add, Bool.false_eq_true, not_true_eq_false, not_false_eq_true, d_lt, d_nlt, d_le, d_nle, d_eq, d_neq, li_128, c_eq0]
    · have hs' : St d b (a % b) := by
        rcases hs with z | z
        · exact absurd z hb
        · exact z
      have hm := Nat.mod_lt a (show 0 < b by omega)
      have eg : Nat.gcd a b = Nat.gcd b (a % b) := by rw [Nat.gcd_comm a b, Nat.gcd_rec b a, Nat.gcd_comm]
      have er : lN a - lN a / lN b * lN b = lN (a % b) := pk_lRem (by omega) (by omega) (by omega)
      rw [eg] at h5 ⊢
      rw [← ih b (a % b) (k + 1) g hs' (by omega) (by omega) h4 (by omega) h5]
      show b132_9 _ _ _ _ _ _ _ _ = _
      rw [f_b132_9]
      simp (maxSteps := 20000) (disch := omega) only [mk_oc, mk_aw, mk_sI, mk_sL, gi_mk, gg_mk, ↓lt_I, ↓lt_L, ↓bn_some, ↓bq_some, ↓bq_none, ↓bn_none, ↓bq_ite, ↓bn_ite, ↓bq_bind, ↓bn_bind, ↓bq_bq, ↓bn_bq, ↓bq_lt, ↓bn_lt, ↓reduceIte, ↓rb_0_0, ↓rb_0_1, ↓rb_0_2, ↓rb_0_3, ↓rb_0_4, ↓rb_0_5, ↓rb_0_6, ↓rb_0_7, ↓rb_0_8, ↓rb_0_9, ↓rb_0_10, ↓rb_1_0, ↓rb_1_1, ↓rb_1_2, ↓rb_1_3, ↓rb_1_4, ↓rb_1_5, ↓rb_2_0, ↓rb_2_1, ↓rb_2_2, ↓rb_2_3, ↓rb_3_0, ↓rb_3_1, ↓rb_3_2, ↓rb_3_3, ↓rb_3_4, ↓rb_3_5, ↓rb_10_0, ↓rb_10_1, ↓rb_10_2, ↓rb_10_3, ↓rb_10_4, ↓rb_10_5, ↓rb_10_6, ↓rb_10_7, ↓rb_18_0, ↓rb_18_1, ↓rb_18_2, ↓rb_18_3, ↓rb_18_4, ↓rb_18_5, ↓rb_18_6, ↓rb_18_7, ↓rb_26_0, ↓rb_26_1, ↓rb_26_2, ↓rb_28_0, ↓rb_28_1, ↓rb_31_0, ↓rb_31_1, ↓rb_31_2, ↓rb_37_0, ↓rb_39_0, ↓rb_41_0, ↓rb_43_0, ↓rb_45_0, ↓rb_47_0, ↓rb_49_0, ↓rb_51_0, ↓rb_53_0, ↓rb_55_0, ↓rb_57_0, ↓rb_57_1, ↓rb_57_2, ↓rb_57_3, ↓rb_57_4, ↓rb_57_5, ↓rb_57_6, ↓rb_57_7, ↓rb_65_0, ↓rb_65_1, ↓rb_65_2, ↓rb_65_3, ↓rb_65_4, ↓rb_65_5, ↓rb_65_6, ↓rb_65_7, ↓rb_73_0, ↓rb_73_1, ↓rb_73_2, ↓rb_73_3, ↓rb_73_4, ↓rb_73_5, ↓rb_73_6, ↓rb_73_7, ↓rb_81_0, ↓rb_81_1, ↓rb_81_2, ↓rb_81_3, ↓rb_81_6, ↓rb_81_7, ↓rb_81_8, ↓rb_81_10, ↓rb_81_11, ↓rb_81_12, ↓rb_81_17, ↓rb_81_22, ↓rb_81_24, ↓rb_81_25, ↓rb_81_26, ↓rb_81_27, oc_0x, aw_1, aw_2, aw_3, oc_4_6, oc_4_5, oc_4_0, oc_4_1, oc_4_9, oc_4_2, oc_5_6, oc_5_5, oc_5_0, oc_5_1, oc_5_9, oc_5_2, oc_6_6, oc_6_5, oc_6_0, oc_6_1, oc_6_9, oc_6_2, oc_7_6, oc_7_5, oc_7_0, oc_7_1, oc_7_9, oc_7_2, oc_8_6, oc_8_5, oc_8_0, oc_8_1, oc_8_9, oc_8_2, oc_9_6, oc_9_5, oc_9_0, oc_9_1, oc_9_9, oc_9_2, oc_10x, al_11, aw_11, al_12, aw_12, al_13, aw_13, al_14, aw_14, al_15, aw_15, al_16, aw_16, al_17, aw_17, oc_18x, al_19, aw_19, al_20, aw_20, al_21, aw_21, al_22, aw_22, al_23, aw_23, al_24, aw_24, al_25, aw_25, aw_26, oc_27x, oc_28x, al_29, aw_29, al_30, aw_30, oc_31x, al_32, aw_32, al_33, aw_33, al_34, aw_34, al_35, aw_35, al_36, aw_36, oc_57x, al_58, aw_58, al_59, aw_59, al_60, aw_60, al_61, aw_61, al_62, aw_62, al_63, aw_63, al_64, aw_64, oc_65x, al_66, aw_66, al_67, aw_67, al_68, aw_68, al_69, aw_69, al_70, aw_70, al_71, aw_71, al_72, aw_72, oc_73x, al_74, aw_74, al_75, aw_75, al_76, aw_76, al_77, aw_77, al_78, aw_78, al_79, aw_79, al_80, aw_80, oc_81x, al_82, aw_82, al_83, aw_83, al_84, aw_84, al_85, aw_85, al_86, aw_86, al_87, aw_87, al_88, aw_88, al_89, aw_89, al_90, aw_90, aw_91, al_92, aw_92, al_93, aw_93, al_94, aw_94, al_95, aw_95, al_96, aw_96, al_97, aw_97, li_0, li_1, li_2, li_3, li_4, li_5, li_6, li_7, li_8, li_9, li_10, li_11, li_12, li_15, li_16, li_18, li_19, li_20, li_24, li_30, li_31, li_32, li_40, li_48, li_49, li_55, li_56, li_57, li_60, li_63, li_97, li_98, li_99, li_100, li_107, li_110, li_115, li_117, li_600, li_640, li_656, li_657, li_1000, li_2147483646, li_1000000, oc_r, oc_t, oc_k, ↓rb_r, ↓rb_rc, aw_r, al_r, ↓rb_t, ↓rb_tc, aw_t, al_t, ↓rb_k, w2_s, w2_j, w2_k, g2_s, g2_j, g2_k, al_1001, al_1000, e_lt, e_le, e_eq, e_nlt, e_nle, e_ltn, e_len, e_neq, e_eqn, e_nn, e_nlen, e_nltn, nI_add, pk_mul, e_sub, e_subn, e_addn, e_clamp, e_inb, e_inbn, e_dec, lt_ap, ll_0, ll_1, e_llt, e_leq, c_lt0, c_gt0, c_le0, nI_l, lN_add, Bool.false_eq_true, not_true_eq_false, not_false_eq_true, d_lt, d_nlt, d_le, d_nle, d_eq, d_neq, li_128, c_eq0, hb, er]
theorem p_228 {part whole : Nat} (hwl : whole < 2 ^ 60) (hpl : part < 2 ^ 60) : ∀ d a b f, St d a b → d < f → a < 2 ^ 60 → b < 2 ^ 60 → 0 < Nat.gcd a b → l228_6 f 81 (lN part) (lN whole) (lN a) (lN b) (mk I G L) = some (nI 1, mk I (g2 (g2 G 81 14 (lN (part / Nat.gcd a b))) 81 15 (lN (whole / Nat.gcd a b))) L) := by
  have fin : ∀ a k6, 0 < a → a < 2 ^ 60 → b228_6 k6 81 (lN part) (lN whole) (lN a) (lN 0) (mk I G L) = some (nI 1, mk I (g2 (g2 G 81 14 (lN (part / a))) 81 15 (lN (whole / a))) L) := by
    intro a k6 h0 ha
    have e1 : lN part / lN a = lN (part / a) := pk_lDiv (by omega) h0 (by omega)
    have e2 : lN whole / lN a = lN (whole / a) := pk_lDiv (by omega) h0 (by omega)
    rw [f_b228_6]
    simp (maxSteps := 20000) (disch := omega) only [mk_oc, mk_aw, mk_sI, mk_sL, gi_mk, gg_mk, ↓lt_I, ↓lt_L, ↓bn_some, ↓bq_some, ↓bq_none, ↓bn_none, ↓bq_ite, ↓bn_ite, ↓bq_bind, ↓bn_bind, ↓bq_bq, ↓bn_bq, ↓bq_lt, ↓bn_lt, ↓reduceIte, ↓rb_0_0, ↓rb_0_1, ↓rb_0_2, ↓rb_0_3, ↓rb_0_4, ↓rb_0_5, ↓rb_0_6, ↓rb_0_7, ↓rb_0_8, ↓rb_0_9, ↓rb_0_10, ↓rb_1_0, ↓rb_1_1, ↓rb_1_2, ↓rb_1_3, ↓rb_1_4, ↓rb_1_5, ↓rb_2_0, ↓rb_2_1, ↓rb_2_2, ↓rb_2_3, ↓rb_3_0, ↓rb_3_1, ↓rb_3_2, ↓rb_3_3, ↓rb_3_4, ↓rb_3_5, ↓rb_10_0, ↓rb_10_1, ↓rb_10_2, ↓rb_10_3, ↓rb_10_4, ↓rb_10_5, ↓rb_10_6, ↓rb_10_7, ↓rb_18_0, ↓rb_18_1, ↓rb_18_2, ↓rb_18_3, ↓rb_18_4, ↓rb_18_5, ↓rb_18_6, ↓rb_18_7, ↓rb_26_0, ↓rb_26_1, ↓rb_26_2, ↓rb_28_0, ↓rb_28_1, ↓rb_31_0, ↓rb_31_1, ↓rb_31_2, ↓rb_37_0, ↓rb_39_0, ↓rb_41_0, ↓rb_43_0, ↓rb_45_0, ↓rb_47_0, ↓rb_49_0, ↓rb_51_0, ↓rb_53_0, ↓rb_55_0, ↓rb_57_0, ↓rb_57_1, ↓rb_57_2, ↓rb_57_3, ↓rb_57_4, ↓rb_57_5, ↓rb_57_6, ↓rb_57_7, ↓rb_65_0, ↓rb_65_1, ↓rb_65_2, ↓rb_65_3, ↓rb_65_4, ↓rb_65_5, ↓rb_65_6, ↓rb_65_7, ↓rb_73_0, ↓rb_73_1, ↓rb_73_2, ↓rb_73_3, ↓rb_73_4, ↓rb_73_5, ↓rb_73_6, ↓rb_73_7, ↓rb_81_0, ↓rb_81_1, ↓rb_81_2, ↓rb_81_3, ↓rb_81_6, ↓rb_81_7, ↓rb_81_8, ↓rb_81_10, ↓rb_81_11, ↓rb_81_12, ↓rb_81_17, ↓rb_81_22, ↓rb_81_24, ↓rb_81_25, ↓rb_81_26, ↓rb_81_27, oc_0x, aw_1, aw_2, aw_3, oc_4_6, oc_4_5, oc_4_0, oc_4_1, oc_4_9, oc_4_2, oc_5_6, oc_5_5, oc_5_0, oc_5_1, oc_5_9, oc_5_2, oc_6_6, oc_6_5, oc_6_0, oc_6_1, oc_6_9, oc_6_2, oc_7_6, oc_7_5, oc_7_0, oc_7_1, oc_7_9, oc_7_2, oc_8_6, oc_8_5, oc_8_0, oc_8_1, oc_8_9, oc_8_2, oc_9_6, oc_9_5, oc_9_0, oc_9_1, oc_9_9, oc_9_2, oc_10x, al_11, aw_11, al_12, aw_12, al_13, aw_13, al_14, aw_14, al_15, aw_15, al_16, aw_16, al_17, aw_17, oc_18x, al_19, aw_19, al_20, aw_20, al_21, aw_21, al_22, aw_22, al_23, aw_23, al_24, aw_24, al_25, aw_25, aw_26, oc_27x, oc_28x, al_29, aw_29, al_30, aw_30, oc_31x, al_32, aw_32, al_33, aw_33, al_34, aw_34, al_35, aw_35, al_36, aw_36, oc_57x, al_58, aw_58, al_59, aw_59, al_60, aw_60, al_61, aw_61, al_62, aw_62, al_63, aw_63, al_64, aw_64, oc_65x, al_66, aw_66, al_67, aw_67, al_68, aw_68, al_69, aw_69, al_70, aw_70, al_71, aw_71, al_72, aw_72, oc_73x, al_74, aw_74, al_75, aw_75, al_76, aw_76, al_77, aw_77, al_78, aw_78, al_79, aw_79, al_80, aw_80, oc_81x, al_82, aw_82, al_83, aw_83, al_84, aw_84, al_85, aw_85, al_86, aw_86, al_87, aw_87, al_88, aw_88, al_89, aw_89, al_90, aw_90, aw_91, al_92, aw_92, al_93, aw_93, al_94, aw_94, al_95, aw_95, al_96, aw_96, al_97, aw_97, li_0, li_1, li_2, li_3, li_4, li_5, li_6, li_7, li_8, li_9, li_10, li_11, li_12, li_15, li_16, li_18, li_19, li_20, li_24, li_30, li_31, li_32, li_40, li_48, li_49, li_55, li_56, li_57, li_60, li_63, li_97, li_98, li_99, li_100, li_107, li_110, li_115, li_117, li_600, li_640, li_656, li_657, li_1000, li_2147483646, li_1000000, oc_r, oc_t, oc_k, ↓rb_r, ↓rb_rc, aw_r, al_r, ↓rb_t, ↓rb_tc, aw_t, al_t, ↓rb_k, w2_s, w2_j, w2_k, g2_s, g2_j, g2_k, al_1001, al_1000, e_lt, e_le, e_eq, e_nlt, e_nle, e_ltn, e_len, e_neq, e_eqn, e_nn, e_nlen, e_nltn, nI_add, pk_mul, e_sub, e_subn, e_addn, e_clamp, e_inb, e_inbn, e_dec, lt_ap, ll_0, ll_1, e_llt, e_leq, c_lt0, c_gt0, c_le0, nI_l, lN_add, Bool.false_eq_true, not_true_eq_false, not_false_eq_true, d_lt, d_nlt, d_le, d_nle, d_eq, d_neq, c_eq0, e1, e2]
  intro d
  induction d with
  | zero =>
    intro a b f hs h2 h3 h4 h5
    obtain ⟨g, rfl⟩ : ∃ g, f = g + 1 := ⟨f - 1, by omega⟩
    have hb : b = 0 := hs
    subst hb
    rw [Nat.gcd_zero_right] at h5 ⊢
    exact fin a _ h5 h3
  | succ d ih =>
    intro a b f hs h2 h3 h4 h5
    obtain ⟨g, rfl⟩ : ∃ g, f = g + 1 := ⟨f - 1, by omega⟩
    by_cases hb : b = 0
    · subst hb
      rw [Nat.gcd_zero_right] at h5 ⊢
      exact fin a _ h5 h3
    · have hs' : St d b (a % b) := by
        rcases hs with z | z
        · exact absurd z hb
        · exact z
      have hm := Nat.mod_lt a (show 0 < b by omega)
      have eg : Nat.gcd a b = Nat.gcd b (a % b) := by rw [Nat.gcd_comm a b, Nat.gcd_rec b a, Nat.gcd_comm]
      have er : lN a - lN a / lN b * lN b = lN (a % b) := pk_lRem (by omega) (by omega) (by omega)
      rw [eg] at h5 ⊢
      rw [← ih b (a % b) g hs' (by omega) h4 (by omega) h5]
      show b228_6 _ _ _ _ _ _ _ = _
      rw [f_b228_6]
      simp (maxSteps := 20000) (disch := omega) only [mk_oc, mk_aw, mk_sI, mk_sL, gi_mk, gg_mk, ↓lt_I, ↓lt_L, ↓bn_some, ↓bq_some, ↓bq_none, ↓bn_none, ↓bq_ite, ↓bn_ite, ↓bq_bind, ↓bn_bind, ↓bq_bq, ↓bn_bq, ↓bq_lt, ↓bn_lt, ↓reduceIte, ↓rb_0_0, ↓rb_0_1, ↓rb_0_2, ↓rb_0_3, ↓rb_0_4, ↓rb_0_5, ↓rb_0_6, ↓rb_0_7, ↓rb_0_8, ↓rb_0_9, ↓rb_0_10, ↓rb_1_0, ↓rb_1_1, ↓rb_1_2, ↓rb_1_3, ↓rb_1_4, ↓rb_1_5, ↓rb_2_0, ↓rb_2_1, ↓rb_2_2, ↓rb_2_3, ↓rb_3_0, ↓rb_3_1, ↓rb_3_2, ↓rb_3_3, ↓rb_3_4, ↓rb_3_5, ↓rb_10_0, ↓rb_10_1, ↓rb_10_2, ↓rb_10_3, ↓rb_10_4, ↓rb_10_5, ↓rb_10_6, ↓rb_10_7, ↓rb_18_0, ↓rb_18_1, ↓rb_18_2, ↓rb_18_3, ↓rb_18_4, ↓rb_18_5, ↓rb_18_6, ↓rb_18_7, ↓rb_26_0, ↓rb_26_1, ↓rb_26_2, ↓rb_28_0, ↓rb_28_1, ↓rb_31_0, ↓rb_31_1, ↓rb_31_2, ↓rb_37_0, ↓rb_39_0, ↓rb_41_0, ↓rb_43_0, ↓rb_45_0, ↓rb_47_0, ↓rb_49_0, ↓rb_51_0, ↓rb_53_0, ↓rb_55_0, ↓rb_57_0, ↓rb_57_1, ↓rb_57_2, ↓rb_57_3, ↓rb_57_4, ↓rb_57_5, ↓rb_57_6, ↓rb_57_7, ↓rb_65_0, ↓rb_65_1, ↓rb_65_2, ↓rb_65_3, ↓rb_65_4, ↓rb_65_5, ↓rb_65_6, ↓rb_65_7, ↓rb_73_0, ↓rb_73_1, ↓rb_73_2, ↓rb_73_3, ↓rb_73_4, ↓rb_73_5, ↓rb_73_6, ↓rb_73_7, ↓rb_81_0, ↓rb_81_1, ↓rb_81_2, ↓rb_81_3, ↓rb_81_6, ↓rb_81_7, ↓rb_81_8, ↓rb_81_10, ↓rb_81_11, ↓rb_81_12, ↓rb_81_17, ↓rb_81_22, ↓rb_81_24, ↓rb_81_25, ↓rb_81_26, ↓rb_81_27, oc_0x, aw_1, aw_2, aw_3, oc_4_6, oc_4_5, oc_4_0, oc_4_1, oc_4_9, oc_4_2, oc_5_6, oc_5_5, oc_5_0, oc_5_1, oc_5_9, oc_5_2, oc_6_6, oc_6_5, oc_6_0, oc_6_1, oc_6_9, oc_6_2, oc_7_6, oc_7_5, oc_7_0, oc_7_1, oc_7_9, oc_7_2, oc_8_6, oc_8_5, oc_8_0, oc_8_1, oc_8_9, oc_8_2, oc_9_6, oc_9_5, oc_9_0, oc_9_1, oc_9_9, oc_9_2, oc_10x, al_11, aw_11, al_12, aw_12, al_13, aw_13, al_14, aw_14, al_15, aw_15, al_16, aw_16, al_17, aw_17, oc_18x, al_19, aw_19, al_20, aw_20, al_21, aw_21, al_22, aw_22, al_23, aw_23, al_24, aw_24, al_25, aw_25, aw_26, oc_27x, oc_28x, al_29, aw_29, al_30, aw_30, oc_31x, al_32, aw_32, al_33, aw_33, al_34, aw_34, al_35, aw_35, al_36, aw_36, oc_57x, al_58, aw_58, al_59, aw_59, al_60, aw_60, al_61, aw_61, al_62, aw_62, al_63, aw_63, al_64, aw_64, oc_65x, al_66, aw_66, al_67, aw_67, al_68, aw_68, al_69, aw_69, al_70, aw_70, al_71, aw_71, al_72, aw_72, oc_73x, al_74, aw_74, al_75, aw_75, al_76, aw_76, al_77, aw_77, al_78, aw_78, al_79, aw_79, al_80, aw_80, oc_81x, al_82, aw_82, al_83, aw_83, al_84, aw_84, al_85, aw_85, al_86, aw_86, al_87, aw_87, al_88, aw_88, al_89, aw_89, al_90, aw_90, aw_91, al_92, aw_92, al_93, aw_93, al_94, aw_94, al_95, aw_95, al_96, aw_96, al_97, aw_97, li_0, li_1, li_2, li_3, li_4, li_5, li_6, li_7, li_8, li_9, li_10, li_11, li_12, li_15, li_16, li_18, li_19, li_20, li_24, li_30, li_31, li_32, li_40, li_48, li_49, li_55, li_56, li_57, li_60, li_63, li_97, li_98, li_99, li_100, li_107, li_110, li_115, li_117, li_600, li_640, li_656, li_657, li_1000, li_2147483646, li_1000000, oc_r, oc_t, oc_k, ↓rb_r, ↓rb_rc, aw_r, al_r, ↓rb_t, ↓rb_tc, aw_t, al_t, ↓rb_k, w2_s, w2_j, w2_k, g2_s, g2_j, g2_k, al_1001, al_1000, e_lt, e_le, e_eq, e_nlt, e_nle, e_ltn, e_len, e_neq, e_eqn, e_nn, e_nlen, e_nltn, nI_add, pk_mul, e_sub, e_subn, e_addn, e_clamp, e_inb, e_inbn, e_dec, lt_ap, ll_0, ll_1, e_llt, e_leq, c_lt0, c_gt0, c_le0, nI_l, lN_add, Bool.false_eq_true, not_true_eq_false, not_false_eq_true, d_lt, d_nlt, d_le, d_nle, d_eq, d_neq, c_eq0, hb, er]
end ODDSM
section ODDSC
variable {q : Cs} {v : Nat → Nat} (G : G2) (L : Nat)
theorem q_130 {I : I2} (hv : CS I 10 q v) (ho : okv q v) {p s : Nat} (hp : p ≤ 12) (hs : s < 128) : ∀ (ω : Type) (f : Int64 → Sx → Option ω), bq (m130 0 (nI s) (nI p) (mk I G L)) f = f (lN (wys v p s q.1)) (mk I G L) := by
  have n2 := hv.2.1
  have o1 := ho.1
  have key : ∀ d i f, q.1 - i = d → i ≤ q.1 → d < f → l130_5 f 0 (nI s) (nI p) (lN (wys v p s i)) (nI i) (mk I G L) = some (lN (wys v p s q.1), mk I G L) := by
    intro d
    induction d with
    | zero =>
      intro i f h1 h2 h3
      obtain ⟨g, rfl⟩ : ∃ g, f = g + 1 := ⟨f - 1, by omega⟩
      obtain rfl : i = q.1 := by omega
      generalize wys v p s q.1 = y
      show b130_5 _ _ _ _ _ _ _ = _
      rw [f_b130_5]
      simp (maxSteps := 20000) (disch := omega) only [mk_oc, mk_aw, mk_sI, mk_sL, gi_mk, gg_mk, ↓lt_I, ↓lt_L, ↓bn_some, ↓bq_some, ↓bq_none, ↓bn_none, ↓bq_ite, ↓bn_ite, ↓bq_bind, ↓bn_bind, ↓bq_bq, ↓bn_bq, ↓bq_lt, ↓bn_lt, ↓reduceIte, ↓rb_0_0, ↓rb_0_1, ↓rb_0_2, ↓rb_0_3, ↓rb_0_4, ↓rb_0_5, ↓rb_0_6, ↓rb_0_7, ↓rb_0_8, ↓rb_0_9, ↓rb_0_10, ↓rb_1_0, ↓rb_1_1, ↓rb_1_2, ↓rb_1_3, ↓rb_1_4, ↓rb_1_5, ↓rb_2_0, ↓rb_2_1, ↓rb_2_2, ↓rb_2_3, ↓rb_3_0, ↓rb_3_1, ↓rb_3_2, ↓rb_3_3, ↓rb_3_4, ↓rb_3_5, ↓rb_10_0, ↓rb_10_1, ↓rb_10_2, ↓rb_10_3, ↓rb_10_4, ↓rb_10_5, ↓rb_10_6, ↓rb_10_7, ↓rb_18_0, ↓rb_18_1, ↓rb_18_2, ↓rb_18_3, ↓rb_18_4, ↓rb_18_5, ↓rb_18_6, ↓rb_18_7, ↓rb_26_0, ↓rb_26_1, ↓rb_26_2, ↓rb_28_0, ↓rb_28_1, ↓rb_31_0, ↓rb_31_1, ↓rb_31_2, ↓rb_37_0, ↓rb_39_0, ↓rb_41_0, ↓rb_43_0, ↓rb_45_0, ↓rb_47_0, ↓rb_49_0, ↓rb_51_0, ↓rb_53_0, ↓rb_55_0, ↓rb_57_0, ↓rb_57_1, ↓rb_57_2, ↓rb_57_3, ↓rb_57_4, ↓rb_57_5, ↓rb_57_6, ↓rb_57_7, ↓rb_65_0, ↓rb_65_1, ↓rb_65_2, ↓rb_65_3, ↓rb_65_4, ↓rb_65_5, ↓rb_65_6, ↓rb_65_7, ↓rb_73_0, ↓rb_73_1, ↓rb_73_2, ↓rb_73_3, ↓rb_73_4, ↓rb_73_5, ↓rb_73_6, ↓rb_73_7, ↓rb_81_0, ↓rb_81_1, ↓rb_81_2, ↓rb_81_3, ↓rb_81_6, ↓rb_81_7, ↓rb_81_8, ↓rb_81_10, ↓rb_81_11, ↓rb_81_12, ↓rb_81_17, ↓rb_81_22, ↓rb_81_24, ↓rb_81_25, ↓rb_81_26, ↓rb_81_27, oc_0x, aw_1, aw_2, aw_3, oc_4_6, oc_4_5, oc_4_0, oc_4_1, oc_4_9, oc_4_2, oc_5_6, oc_5_5, oc_5_0, oc_5_1, oc_5_9, oc_5_2, oc_6_6, oc_6_5, oc_6_0, oc_6_1, oc_6_9, oc_6_2, oc_7_6, oc_7_5, oc_7_0, oc_7_1, oc_7_9, oc_7_2, oc_8_6, oc_8_5, oc_8_0, oc_8_1, oc_8_9, oc_8_2, oc_9_6, oc_9_5, oc_9_0, oc_9_1, oc_9_9, oc_9_2, oc_10x, al_11, aw_11, al_12, aw_12, al_13, aw_13, al_14, aw_14, al_15, aw_15, al_16, aw_16, al_17, aw_17, oc_18x, al_19, aw_19, al_20, aw_20, al_21, aw_21, al_22, aw_22, al_23, aw_23, al_24, aw_24, al_25, aw_25, aw_26, oc_27x, oc_28x, al_29, aw_29, al_30, aw_30, oc_31x, al_32, aw_32, al_33, aw_33, al_34, aw_34, al_35, aw_35, al_36, aw_36, oc_57x, al_58, aw_58, al_59, aw_59, al_60, aw_60, al_61, aw_61, al_62, aw_62, al_63, aw_63, al_64, aw_64, oc_65x, al_66, aw_66, al_67, aw_67, al_68, aw_68, al_69, aw_69, al_70, aw_70, al_71, aw_71, al_72, aw_72, oc_73x, al_74, aw_74, al_75, aw_75, al_76, aw_76, al_77, aw_77, al_78, aw_78, al_79, aw_79, al_80, aw_80, oc_81x, al_82, aw_82, al_83, aw_83, al_84, aw_84, al_85, aw_85, al_86, aw_86, al_87, aw_87, al_88, aw_88, al_89, aw_89, al_90, aw_90, aw_91, al_92, aw_92, al_93, aw_93, al_94, aw_94, al_95, aw_95, al_96, aw_96, al_97, aw_97, li_0, li_1, li_2, li_3, li_4, li_5, li_6, li_7, li_8, li_9, li_10, li_11, li_12, li_15, li_16, li_18, li_19, li_20, li_24, li_30, li_31, li_32, li_40, li_48, li_49, li_55, li_56, li_57, li_60, li_63, li_97, li_98, li_99, li_100, li_107, li_110, li_115, li_117, li_600, li_640, li_656, li_657, li_1000, li_2147483646, li_1000000, oc_r, oc_t, oc_k, ↓rb_r, ↓rb_rc, aw_r, al_r, ↓rb_t, ↓rb_tc, aw_t, al_t, ↓rb_k, w2_s, w2_j, w2_k, g2_s, g2_j, g2_k, al_1001, al_1000, e_lt, e_le, e_eq, e_nlt, e_nle, e_ltn, e_len, e_neq, e_eqn, e_nn, e_nlen, e_nltn, nI_add, pk_mul, e_sub, e_subn, e_addn, e_clamp, e_inb, e_inbn, e_dec, lt_ap, ll_0, ll_1, e_llt, e_leq, c_lt0, c_gt0, c_le0, nI_l, lN_add, Bool.false_eq_true, not_true_eq_false, not_false_eq_true, d_lt, d_nlt, d_le, d_nle, d_eq, d_neq, n2]
    | succ d ih =>
      intro i f h1 h2 h3
      obtain ⟨g, rfl⟩ : ∃ g, f = g + 1 := ⟨f - 1, by omega⟩
      have hih := ih (i + 1) g (by omega) (by omega) (by omega)
      have es : wys v p s (i + 1) = wys v p s i * (if (v 3).testBit i then (if s.testBit i then 12 - p else p) else 1) := rfl
      rw [es] at hih
      have c6 : ∀ (ω : Type) (f : Int32 → Sx → Option ω), bq (m66 10 (nI i) (mk I G L)) f = f (nI (if (v 3).testBit i then 1 else 0)) (mk I G L) := fun ω f => q_owns f G L hv ho (by omega) (Or.inl rfl)
      rw [← hih]
      generalize wys v p s i = y at *
      show b130_5 _ _ _ _ _ _ _ = _
      rw [f_b130_5]
      by_cases c1 : (v 3).testBit i = true
      · by_cases c2 : s.testBit i = true
        · simp (maxSteps := 20000) (disch := omega) only [mk_oc, mk_aw, mk_sI, mk_sL, gi_mk, gg_mk, ↓lt_I, ↓lt_L, ↓bn_some, ↓bq_some, ↓bq_none, ↓bn_none, ↓bq_ite, ↓bn_ite, ↓bq_bind, ↓bn_bind, ↓bq_bq, ↓bn_bq, ↓bq_lt, ↓bn_lt, ↓reduceIte, ↓rb_0_0, ↓rb_0_1, ↓rb_0_2, ↓rb_0_3, ↓rb_0_4, ↓rb_0_5, ↓rb_0_6, ↓rb_0_7, ↓rb_0_8, ↓rb_0_9, ↓rb_0_10, ↓rb_1_0, ↓rb_1_1, ↓rb_1_2, ↓rb_1_3, ↓rb_1_4, ↓rb_1_5, ↓rb_2_0, ↓rb_2_1, ↓rb_2_2, ↓rb_2_3, ↓rb_3_0, ↓rb_3_1, ↓rb_3_2, ↓rb_3_3, ↓rb_3_4, ↓rb_3_5, ↓rb_10_0, ↓rb_10_1, ↓rb_10_2, ↓rb_10_3, ↓rb_10_4, ↓rb_10_5, ↓rb_10_6, ↓rb_10_7, ↓rb_18_0, ↓rb_18_1, ↓rb_18_2, ↓rb_18_3, ↓rb_18_4, ↓rb_18_5, ↓rb_18_6, ↓rb_18_7, ↓rb_26_0, ↓rb_26_1, ↓rb_26_2, ↓rb_28_0, ↓rb_28_1, ↓rb_31_0, ↓rb_31_1, ↓rb_31_2, ↓rb_37_0, ↓rb_39_0, ↓rb_41_0, ↓rb_43_0, ↓rb_45_0, ↓rb_47_0, ↓rb_49_0, ↓rb_51_0, ↓rb_53_0, ↓rb_55_0, ↓rb_57_0, ↓rb_57_1, ↓rb_57_2, ↓rb_57_3, ↓rb_57_4, ↓rb_57_5, ↓rb_57_6, ↓rb_57_7, ↓rb_65_0, ↓rb_65_1, ↓rb_65_2, ↓rb_65_3, ↓rb_65_4, ↓rb_65_5, ↓rb_65_6, ↓rb_65_7, ↓rb_73_0, ↓rb_73_1, ↓rb_73_2, ↓rb_73_3, ↓rb_73_4, ↓rb_73_5, ↓rb_73_6, ↓rb_73_7, ↓rb_81_0, ↓rb_81_1, ↓rb_81_2, ↓rb_81_3, ↓rb_81_6, ↓rb_81_7, ↓rb_81_8, ↓rb_81_10, ↓rb_81_11, ↓rb_81_12, ↓rb_81_17, ↓rb_81_22, ↓rb_81_24, ↓rb_81_25, ↓rb_81_26, ↓rb_81_27, oc_0x, aw_1, aw_2, aw_3, oc_4_6, oc_4_5, oc_4_0, oc_4_1, oc_4_9, oc_4_2, oc_5_6, oc_5_5, oc_5_0, oc_5_1, oc_5_9, oc_5_2, oc_6_6, oc_6_5, oc_6_0, oc_6_1, oc_6_9, oc_6_2, oc_7_6, oc_7_5, oc_7_0, oc_7_1, oc_7_9, oc_7_2, oc_8_6, oc_8_5, oc_8_0, oc_8_1, oc_8_9, oc_8_2, oc_9_6, oc_9_5, oc_9_0, oc_9_1, oc_9_9, oc_9_2, oc_10x, al_11, aw_11, al_12, aw_12, al_13, aw_13, al_14, aw_14, al_15, aw_15, al_16, aw_16, al_17, aw_17, oc_18x, al_19, aw_19, al_20, aw_20, al_21, aw_21, al_22, aw_22, al_23, aw_23, al_24, aw_24, al_25, aw_25, aw_26, oc_27x, oc_28x, al_29, aw_29, al_30, aw_30, oc_31x, al_32, aw_32, al_33, aw_33, al_34, aw_34, al_35, aw_35, al_36, aw_36, oc_57x, al_58, aw_58, al_59, aw_59, al_60, aw_60, al_61, aw_61, al_62, aw_62, al_63, aw_63, al_64, aw_64, oc_65x, al_66, aw_66, al_67, aw_67, al_68, aw_68, al_69, aw_69, al_70, aw_70, al_71, aw_71, al_72, aw_72, oc_73x, al_74, aw_74, al_75, aw_75, al_76, aw_76, al_77, aw_77, al_78, aw_78, al_79, aw_79, al_80, aw_80, oc_81x, al_82, aw_82, al_83, aw_83, al_84, aw_84, al_85, aw_85, al_86, aw_86, al_87, aw_87, al_88, aw_88, al_89, aw_89, al_90, aw_90, aw_91, al_92, aw_92, al_93, aw_93, al_94, aw_94, al_95, aw_95, al_96, aw_96, al_97, aw_97, li_0, li_1, li_2, li_3, li_4, li_5, li_6, li_7, li_8, li_9, li_10, li_11, li_12, li_15, li_16, li_18, li_19, li_20, li_24, li_30, li_31, li_32, li_40, li_48, li_49, li_55, li_56, li_57, li_60, li_63, li_97, li_98, li_99, li_100, li_107, li_110, li_115, li_117, li_600, li_640, li_656, li_657, li_1000, li_2147483646, li_1000000, oc_r, oc_t, oc_k, ↓rb_r, ↓rb_rc, aw_r, al_r, ↓rb_t, ↓rb_tc, aw_t, al_t, ↓rb_k, w2_s, w2_j, w2_k, g2_s, g2_j, g2_k, al_1001, al_1000, e_lt, e_le, e_eq, e_nlt, e_nle, e_ltn, e_len, e_neq, e_eqn, e_nn, e_nlen, e_nltn, nI_add, pk_mul, e_sub, e_subn, e_addn, e_clamp, e_inb, e_inbn, e_dec, lt_ap, ll_0, ll_1, e_llt, e_leq, c_lt0, c_gt0, c_le0, nI_l, lN_add, Bool.false_eq_true, not_true_eq_false, not_false_eq_true, d_lt, d_nlt, d_le, d_nle, d_eq, d_neq, oc_c, ↓rb_c0, ↓rb_c1, ↓rb_c2, ↓rb_c3, ↓rb_c4, ↓rb_c5, ↓rb_c6, ↓rb_c7, aw_c1, aw_c2, aw_c3, aw_c4, aw_c5, aw_c6, aw_c7, al_c1, al_c2, al_c3, al_c4, al_c5, al_c6, al_c7, ↓rb_kd, isa_43, of_nI, pk_rem, e_bitN, e_1shlN, n2, ↓c6, c1, c2, ↓f_b130_50, ↓f_b130_52, lN_mul]
        · simp (maxSteps := 20000) (disch := omega) only [mk_oc, mk_aw, mk_sI, mk_sL, gi_mk, gg_mk, ↓lt_I, ↓lt_L, ↓bn_some, ↓bq_some, ↓bq_none, ↓bn_none, ↓bq_ite, ↓bn_ite, ↓bq_bind, ↓bn_bind, ↓bq_bq, ↓bn_bq, ↓bq_lt, ↓bn_lt, ↓reduceIte, ↓rb_0_0, ↓rb_0_1, ↓rb_0_2, ↓rb_0_3, ↓rb_0_4, ↓rb_0_5, ↓rb_0_6, ↓rb_0_7, ↓rb_0_8, ↓rb_0_9, ↓rb_0_10, ↓rb_1_0, ↓rb_1_1, ↓rb_1_2, ↓rb_1_3, ↓rb_1_4, ↓rb_1_5, ↓rb_2_0, ↓rb_2_1, ↓rb_2_2, ↓rb_2_3, ↓rb_3_0, ↓rb_3_1, ↓rb_3_2, ↓rb_3_3, ↓rb_3_4, ↓rb_3_5, ↓rb_10_0, ↓rb_10_1, ↓rb_10_2, ↓rb_10_3, ↓rb_10_4, ↓rb_10_5, ↓rb_10_6, ↓rb_10_7, ↓rb_18_0, ↓rb_18_1, ↓rb_18_2, ↓rb_18_3, ↓rb_18_4, ↓rb_18_5, ↓rb_18_6, ↓rb_18_7, ↓rb_26_0, ↓rb_26_1, ↓rb_26_2, ↓rb_28_0, ↓rb_28_1, ↓rb_31_0, ↓rb_31_1, ↓rb_31_2, ↓rb_37_0, ↓rb_39_0, ↓rb_41_0, ↓rb_43_0, ↓rb_45_0, ↓rb_47_0, ↓rb_49_0, ↓rb_51_0, ↓rb_53_0, ↓rb_55_0, ↓rb_57_0, ↓rb_57_1, ↓rb_57_2, ↓rb_57_3, ↓rb_57_4, ↓rb_57_5, ↓rb_57_6, ↓rb_57_7, ↓rb_65_0, ↓rb_65_1, ↓rb_65_2, ↓rb_65_3, ↓rb_65_4, ↓rb_65_5, ↓rb_65_6, ↓rb_65_7, ↓rb_73_0, ↓rb_73_1, ↓rb_73_2, ↓rb_73_3, ↓rb_73_4, ↓rb_73_5, ↓rb_73_6, ↓rb_73_7, ↓rb_81_0, ↓rb_81_1, ↓rb_81_2, ↓rb_81_3, ↓rb_81_6, ↓rb_81_7, ↓rb_81_8, ↓rb_81_10, ↓rb_81_11, ↓rb_81_12, ↓rb_81_17, ↓rb_81_22, ↓rb_81_24, ↓rb_81_25, ↓rb_81_26, ↓rb_81_27, oc_0x, aw_1, aw_2, aw_3, oc_4_6, oc_4_5, oc_4_0, oc_4_1, oc_4_9, oc_4_2, oc_5_6, oc_5_5, oc_5_0, oc_5_1, oc_5_9, oc_5_2, oc_6_6, oc_6_5, oc_6_0, oc_6_1, oc_6_9, oc_6_2, oc_7_6, oc_7_5, oc_7_0, oc_7_1, oc_7_9, oc_7_2, oc_8_6, oc_8_5, oc_8_0, oc_8_1, oc_8_9, oc_8_2, oc_9_6, oc_9_5, oc_9_0, oc_9_1, oc_9_9, oc_9_2, oc_10x, al_11, aw_11, al_12, aw_12, al_13, aw_13, al_14, aw_14, al_15, aw_15, al_16, aw_16, al_17, aw_17, oc_18x, al_19, aw_19, al_20, aw_20, al_21, aw_21, al_22, aw_22, al_23, aw_23, al_24, aw_24, al_25, aw_25, aw_26, oc_27x, oc_28x, al_29, aw_29, al_30, aw_30, oc_31x, al_32, aw_32, al_33, aw_33, al_34, aw_34, al_35, aw_35, al_36, aw_36, oc_57x, al_58, aw_58, al_59, aw_59, al_60, aw_60, al_61, aw_61, al_62, aw_62, al_63, aw_63, al_64, aw_64, oc_65x, al_66, aw_66, al_67, aw_67, al_68, aw_68, al_69, aw_69, al_70, aw_70, al_71, aw_71, al_72, aw_72, oc_73x, al_74, aw_74, al_75, aw_75, al_76, aw_76, al_77, aw_77, al_78, aw_78, al_79, aw_79, al_80, aw_80, oc_81x, al_82, aw_82, al_83, aw_83, al_84, aw_84, al_85, aw_85, al_86, aw_86, al_87, aw_87, al_88, aw_88, al_89, aw_89, al_90, aw_90, aw_91, al_92, aw_92, al_93, aw_93, al_94, aw_94, al_95, aw_95, al_96, aw_96, al_97, aw_97, li_0, li_1, li_2, li_3, li_4, li_5, li_6, li_7, li_8, li_9, li_10, li_11, li_12, li_15, li_16, li_18, li_19, li_20, li_24, li_30, li_31, li_32, li_40, li_48, li_49, li_55, li_56, li_57, li_60, li_63, li_97, li_98, li_99, li_100, li_107, li_110, li_115, li_117, li_600, li_640, li_656, li_657, li_1000, li_2147483646, li_1000000, oc_r, oc_t, oc_k, ↓rb_r, ↓rb_rc, aw_r, al_r, ↓rb_t, ↓rb_tc, aw_t, al_t, ↓rb_k, w2_s, w2_j, w2_k, g2_s, g2_j, g2_k, al_1001, al_1000, e_lt, e_le, e_eq, e_nlt, e_nle, e_ltn, e_len, e_neq, e_eqn, e_nn, e_nlen, e_nltn, nI_add, pk_mul, e_sub, e_subn, e_addn, e_clamp, e_inb, e_inbn, e_dec, lt_ap, ll_0, ll_1, e_llt, e_leq, c_lt0, c_gt0, c_le0, nI_l, lN_add, Bool.false_eq_true, not_true_eq_false, not_false_eq_true, d_lt, d_nlt, d_le, d_nle, d_eq, d_neq, oc_c, ↓rb_c0, ↓rb_c1, ↓rb_c2, ↓rb_c3, ↓rb_c4, ↓rb_c5, ↓rb_c6, ↓rb_c7, aw_c1, aw_c2, aw_c3, aw_c4, aw_c5, aw_c6, aw_c7, al_c1, al_c2, al_c3, al_c4, al_c5, al_c6, al_c7, ↓rb_kd, isa_43, of_nI, pk_rem, e_bitN, e_1shlN, n2, ↓c6, c1, c2, ↓f_b130_50, ↓f_b130_52, lN_mul]
      · simp (maxSteps := 20000) (disch := omega) only [mk_oc, mk_aw, mk_sI, mk_sL, gi_mk, gg_mk, ↓lt_I, ↓lt_L, ↓bn_some, ↓bq_some, ↓bq_none, ↓bn_none, ↓bq_ite, ↓bn_ite, ↓bq_bind, ↓bn_bind, ↓bq_bq, ↓bn_bq, ↓bq_lt, ↓bn_lt, ↓reduceIte, ↓rb_0_0, ↓rb_0_1, ↓rb_0_2, ↓rb_0_3, ↓rb_0_4, ↓rb_0_5, ↓rb_0_6, ↓rb_0_7, ↓rb_0_8, ↓rb_0_9, ↓rb_0_10, ↓rb_1_0, ↓rb_1_1, ↓rb_1_2, ↓rb_1_3, ↓rb_1_4, ↓rb_1_5, ↓rb_2_0, ↓rb_2_1, ↓rb_2_2, ↓rb_2_3, ↓rb_3_0, ↓rb_3_1, ↓rb_3_2, ↓rb_3_3, ↓rb_3_4, ↓rb_3_5, ↓rb_10_0, ↓rb_10_1, ↓rb_10_2, ↓rb_10_3, ↓rb_10_4, ↓rb_10_5, ↓rb_10_6, ↓rb_10_7, ↓rb_18_0, ↓rb_18_1, ↓rb_18_2, ↓rb_18_3, ↓rb_18_4, ↓rb_18_5, ↓rb_18_6, ↓rb_18_7, ↓rb_26_0, ↓rb_26_1, ↓rb_26_2, ↓rb_28_0, ↓rb_28_1, ↓rb_31_0, ↓rb_31_1, ↓rb_31_2, ↓rb_37_0, ↓rb_39_0, ↓rb_41_0, ↓rb_43_0, ↓rb_45_0, ↓rb_47_0, ↓rb_49_0, ↓rb_51_0, ↓rb_53_0, ↓rb_55_0, ↓rb_57_0, ↓rb_57_1, ↓rb_57_2, ↓rb_57_3, ↓rb_57_4, ↓rb_57_5, ↓rb_57_6, ↓rb_57_7, ↓rb_65_0, ↓rb_65_1, ↓rb_65_2, ↓rb_65_3, ↓rb_65_4, ↓rb_65_5, ↓rb_65_6, ↓rb_65_7, ↓rb_73_0, ↓rb_73_1, ↓rb_73_2, ↓rb_73_3, ↓rb_73_4, ↓rb_73_5, ↓rb_73_6, ↓rb_73_7, ↓rb_81_0, ↓rb_81_1, ↓rb_81_2, ↓rb_81_3, ↓rb_81_6, ↓rb_81_7, ↓rb_81_8, ↓rb_81_10, ↓rb_81_11, ↓rb_81_12, ↓rb_81_17, ↓rb_81_22, ↓rb_81_24, ↓rb_81_25, ↓rb_81_26, ↓rb_81_27, oc_0x, aw_1, aw_2, aw_3, oc_4_6, oc_4_5, oc_4_0, oc_4_1, oc_4_9, oc_4_2, oc_5_6, oc_5_5, oc_5_0, oc_5_1, oc_5_9, oc_5_2, oc_6_6, oc_6_5, oc_6_0, oc_6_1, oc_6_9, oc_6_2, oc_7_6, oc_7_5, oc_7_0, oc_7_1, oc_7_9, oc_7_2, oc_8_6, oc_8_5, oc_8_0, oc_8_1, oc_8_9, oc_8_2, oc_9_6, oc_9_5, oc_9_0, oc_9_1, oc_9_9, oc_9_2, oc_10x, al_11, aw_11, al_12, aw_12, al_13, aw_13, al_14, aw_14, al_15, aw_15, al_16, aw_16, al_17, aw_17, oc_18x, al_19, aw_19, al_20, aw_20, al_21, aw_21, al_22, aw_22, al_23, aw_23, al_24, aw_24, al_25, aw_25, aw_26, oc_27x, oc_28x, al_29, aw_29, al_30, aw_30, oc_31x, al_32, aw_32, al_33, aw_33, al_34, aw_34, al_35, aw_35, al_36, aw_36, oc_57x, al_58, aw_58, al_59, aw_59, al_60, aw_60, al_61, aw_61, al_62, aw_62, al_63, aw_63, al_64, aw_64, oc_65x, al_66, aw_66, al_67, aw_67, al_68, aw_68, al_69, aw_69, al_70, aw_70, al_71, aw_71, al_72, aw_72, oc_73x, al_74, aw_74, al_75, aw_75, al_76, aw_76, al_77, aw_77, al_78, aw_78, al_79, aw_79, al_80, aw_80, oc_81x, al_82, aw_82, al_83, aw_83, al_84, aw_84, al_85, aw_85, al_86, aw_86, al_87, aw_87, al_88, aw_88, al_89, aw_89, al_90, aw_90, aw_91, al_92, aw_92, al_93, aw_93, al_94, aw_94, al_95, aw_95, al_96, aw_96, al_97, aw_97, li_0, li_1, li_2, li_3, li_4, li_5, li_6, li_7, li_8, li_9, li_10, li_11, li_12, li_15, li_16, li_18, li_19, li_20, li_24, li_30, li_31, li_32, li_40, li_48, li_49, li_55, li_56, li_57, li_60, li_63, li_97, li_98, li_99, li_100, li_107, li_110, li_115, li_117, li_600, li_640, li_656, li_657, li_1000, li_2147483646, li_1000000, oc_r, oc_t, oc_k, ↓rb_r, ↓rb_rc, aw_r, al_r, ↓rb_t, ↓rb_tc, aw_t, al_t, ↓rb_k, w2_s, w2_j, w2_k, g2_s, g2_j, g2_k, al_1001, al_1000, e_lt, e_le, e_eq, e_nlt, e_nle, e_ltn, e_len, e_neq, e_eqn, e_nn, e_nlen, e_nltn, nI_add, pk_mul, e_sub, e_subn, e_addn, e_clamp, e_inb, e_inbn, e_dec, lt_ap, ll_0, ll_1, e_llt, e_leq, c_lt0, c_gt0, c_le0, nI_l, lN_add, Bool.false_eq_true, not_true_eq_false, not_false_eq_true, d_lt, d_nlt, d_le, d_nle, d_eq, d_neq, oc_c, ↓rb_c0, ↓rb_c1, ↓rb_c2, ↓rb_c3, ↓rb_c4, ↓rb_c5, ↓rb_c6, ↓rb_c7, aw_c1, aw_c2, aw_c3, aw_c4, aw_c5, aw_c6, aw_c7, al_c1, al_c2, al_c3, al_c4, al_c5, al_c6, al_c7, ↓rb_kd, isa_43, of_nI, pk_rem, e_bitN, e_1shlN, n2, ↓c6, c1, ↓f_b130_52, Nat.mul_one]
  intro ω f
  rw [show m130 0 (nI s) (nI p) (mk I G L) = _ from key q.1 0 1000 (by omega) (by omega) (by omega)]
  rfl
theorem q_131 {I : I2} (hv : CS I 10 q v) (ho : okv q v) : ∀ (ω : Type) (f : Int64 → Sx → Option ω), bq (m131 0 (mk I G L)) f = f (lN (acs v q.1)) (mk I G L) := by
  have n2 := hv.2.1
  have o1 := ho.1
  have key : ∀ d i f, q.1 - i = d → i ≤ q.1 → d < f → l131_4 f 0 (lN (acs v i)) (nI i) (mk I G L) = some (lN (acs v q.1), mk I G L) := by
    intro d
    induction d with
    | zero =>
      intro i f h1 h2 h3
      obtain ⟨g, rfl⟩ : ∃ g, f = g + 1 := ⟨f - 1, by omega⟩
      obtain rfl : i = q.1 := by omega
      generalize acs v q.1 = y
      show b131_4 _ _ _ _ _ = _
      rw [f_b131_4]
      simp (maxSteps := 20000) (disch := omega) only [mk_oc, mk_aw, mk_sI, mk_sL, gi_mk, gg_mk, ↓lt_I, ↓lt_L, ↓bn_some, ↓bq_some, ↓bq_none, ↓bn_none, ↓bq_ite, ↓bn_ite, ↓bq_bind, ↓bn_bind, ↓bq_bq, ↓bn_bq, ↓bq_lt, ↓bn_lt, ↓reduceIte, ↓rb_0_0, ↓rb_0_1, ↓rb_0_2, ↓rb_0_3, ↓rb_0_4, ↓rb_0_5, ↓rb_0_6, ↓rb_0_7, ↓rb_0_8, ↓rb_0_9, ↓rb_0_10, ↓rb_1_0, ↓rb_1_1, ↓rb_1_2, ↓rb_1_3, ↓rb_1_4, ↓rb_1_5, ↓rb_2_0, ↓rb_2_1, ↓rb_2_2, ↓rb_2_3, ↓rb_3_0, ↓rb_3_1, ↓rb_3_2, ↓rb_3_3, ↓rb_3_4, ↓rb_3_5, ↓rb_10_0, ↓rb_10_1, ↓rb_10_2, ↓rb_10_3, ↓rb_10_4, ↓rb_10_5, ↓rb_10_6, ↓rb_10_7, ↓rb_18_0, ↓rb_18_1, ↓rb_18_2, ↓rb_18_3, ↓rb_18_4, ↓rb_18_5, ↓rb_18_6, ↓rb_18_7, ↓rb_26_0, ↓rb_26_1, ↓rb_26_2, ↓rb_28_0, ↓rb_28_1, ↓rb_31_0, ↓rb_31_1, ↓rb_31_2, ↓rb_37_0, ↓rb_39_0, ↓rb_41_0, ↓rb_43_0, ↓rb_45_0, ↓rb_47_0, ↓rb_49_0, ↓rb_51_0, ↓rb_53_0, ↓rb_55_0, ↓rb_57_0, ↓rb_57_1, ↓rb_57_2, ↓rb_57_3, ↓rb_57_4, ↓rb_57_5, ↓rb_57_6, ↓rb_57_7, ↓rb_65_0, ↓rb_65_1, ↓rb_65_2, ↓rb_65_3, ↓rb_65_4, ↓rb_65_5, ↓rb_65_6, ↓rb_65_7, ↓rb_73_0, ↓rb_73_1, ↓rb_73_2, ↓rb_73_3, ↓rb_73_4, ↓rb_73_5, ↓rb_73_6, ↓rb_73_7, ↓rb_81_0, ↓rb_81_1, ↓rb_81_2, ↓rb_81_3, ↓rb_81_6, ↓rb_81_7, ↓rb_81_8, ↓rb_81_10, ↓rb_81_11, ↓rb_81_12, ↓rb_81_17, ↓rb_81_22, ↓rb_81_24, ↓rb_81_25, ↓rb_81_26, ↓rb_81_27, oc_0x, aw_1, aw_2, aw_3, oc_4_6, oc_4_5, oc_4_0, oc_4_1, oc_4_9, oc_4_2, oc_5_6, oc_5_5, oc_5_0, oc_5_1, oc_5_9, oc_5_2, oc_6_6, oc_6_5, oc_6_0, oc_6_1, oc_6_9, oc_6_2, oc_7_6, oc_7_5, oc_7_0, oc_7_1, oc_7_9, oc_7_2, oc_8_6, oc_8_5, oc_8_0, oc_8_1, oc_8_9, oc_8_2, oc_9_6, oc_9_5, oc_9_0, oc_9_1, oc_9_9, oc_9_2, oc_10x, al_11, aw_11, al_12, aw_12, al_13, aw_13, al_14, aw_14, al_15, aw_15, al_16, aw_16, al_17, aw_17, oc_18x, al_19, aw_19, al_20, aw_20, al_21, aw_21, al_22, aw_22, al_23, aw_23, al_24, aw_24, al_25, aw_25, aw_26, oc_27x, oc_28x, al_29, aw_29, al_30, aw_30, oc_31x, al_32, aw_32, al_33, aw_33, al_34, aw_34, al_35, aw_35, al_36, aw_36, oc_57x, al_58, aw_58, al_59, aw_59, al_60, aw_60, al_61, aw_61, al_62, aw_62, al_63, aw_63, al_64, aw_64, oc_65x, al_66, aw_66, al_67, aw_67, al_68, aw_68, al_69, aw_69, al_70, aw_70, al_71, aw_71, al_72, aw_72, oc_73x, al_74, aw_74, al_75, aw_75, al_76, aw_76, al_77, aw_77, al_78, aw_78, al_79, aw_79, al_80, aw_80, oc_81x, al_82, aw_82, al_83, aw_83, al_84, aw_84, al_85, aw_85, al_86, aw_86, al_87, aw_87, al_88, aw_88, al_89, aw_89, al_90, aw_90, aw_91, al_92, aw_92, al_93, aw_93, al_94, aw_94, al_95, aw_95, al_96, aw_96, al_97, aw_97, li_0, li_1, li_2, li_3, li_4, li_5, li_6, li_7, li_8, li_9, li_10, li_11, li_12, li_15, li_16, li_18, li_19, li_20, li_24, li_30, li_31, li_32, li_40, li_48, li_49, li_55, li_56, li_57, li_60, li_63, li_97, li_98, li_99, li_100, li_107, li_110, li_115, li_117, li_600, li_640, li_656, li_657, li_1000, li_2147483646, li_1000000, oc_r, oc_t, oc_k, ↓rb_r, ↓rb_rc, aw_r, al_r, ↓rb_t, ↓rb_tc, aw_t, al_t, ↓rb_k, w2_s, w2_j, w2_k, g2_s, g2_j, g2_k, al_1001, al_1000, e_lt, e_le, e_eq, e_nlt, e_nle, e_ltn, e_len, e_neq, e_eqn, e_nn, e_nlen, e_nltn, nI_add, pk_mul, e_sub, e_subn, e_addn, e_clamp, e_inb, e_inbn, e_dec, lt_ap, ll_0, ll_1, e_llt, e_leq, c_lt0, c_gt0, c_le0, nI_l, lN_add, Bool.false_eq_true, not_true_eq_false, not_false_eq_true, d_lt, d_nlt, d_le, d_nle, d_eq, d_neq, n2]
    | succ d ih =>
      intro i f h1 h2 h3
      obtain ⟨g, rfl⟩ : ∃ g, f = g + 1 := ⟨f - 1, by omega⟩
      have hih := ih (i + 1) g (by omega) (by omega) (by omega)
      have es : acs v (i + 1) = acs v i * (if (v 3).testBit i then 12 else 1) := rfl
      rw [es] at hih
      have c6 : ∀ (ω : Type) (f : Int32 → Sx → Option ω), bq (m66 10 (nI i) (mk I G L)) f = f (nI (if (v 3).testBit i then 1 else 0)) (mk I G L) := fun ω f => q_owns f G L hv ho (by omega) (Or.inl rfl)
      rw [← hih]
      generalize acs v i = y at *
      show b131_4 _ _ _ _ _ = _
      rw [f_b131_4]
      by_cases c1 : (v 3).testBit i = true
      · simp (maxSteps := 20000) (disch := omega) only [mk_oc, mk_aw, mk_sI, mk_sL, gi_mk, gg_mk, ↓lt_I, ↓lt_L, ↓bn_some, ↓bq_some, ↓bq_none, ↓bn_none, ↓bq_ite, ↓bn_ite, ↓bq_bind, ↓bn_bind, ↓bq_bq, ↓bn_bq, ↓bq_lt, ↓bn_lt, ↓reduceIte, ↓rb_0_0, ↓rb_0_1, ↓rb_0_2, ↓rb_0_3, ↓rb_0_4, ↓rb_0_5, ↓rb_0_6, ↓rb_0_7, ↓rb_0_8, ↓rb_0_9, ↓rb_0_10, ↓rb_1_0, ↓rb_1_1, ↓rb_1_2, ↓rb_1_3, ↓rb_1_4, ↓rb_1_5, ↓rb_2_0, ↓rb_2_1, ↓rb_2_2, ↓rb_2_3, ↓rb_3_0, ↓rb_3_1, ↓rb_3_2, ↓rb_3_3, ↓rb_3_4, ↓rb_3_5, ↓rb_10_0, ↓rb_10_1, ↓rb_10_2, ↓rb_10_3, ↓rb_10_4, ↓rb_10_5, ↓rb_10_6, ↓rb_10_7, ↓rb_18_0, ↓rb_18_1, ↓rb_18_2, ↓rb_18_3, ↓rb_18_4, ↓rb_18_5, ↓rb_18_6, ↓rb_18_7, ↓rb_26_0, ↓rb_26_1, ↓rb_26_2, ↓rb_28_0, ↓rb_28_1, ↓rb_31_0, ↓rb_31_1, ↓rb_31_2, ↓rb_37_0, ↓rb_39_0, ↓rb_41_0, ↓rb_43_0, ↓rb_45_0, ↓rb_47_0, ↓rb_49_0, ↓rb_51_0, ↓rb_53_0, ↓rb_55_0, ↓rb_57_0, ↓rb_57_1, ↓rb_57_2, ↓rb_57_3, ↓rb_57_4, ↓rb_57_5, ↓rb_57_6, ↓rb_57_7, ↓rb_65_0, ↓rb_65_1, ↓rb_65_2, ↓rb_65_3, ↓rb_65_4, ↓rb_65_5, ↓rb_65_6, ↓rb_65_7, ↓rb_73_0, ↓rb_73_1, ↓rb_73_2, ↓rb_73_3, ↓rb_73_4, ↓rb_73_5, ↓rb_73_6, ↓rb_73_7, ↓rb_81_0, ↓rb_81_1, ↓rb_81_2, ↓rb_81_3, ↓rb_81_6, ↓rb_81_7, ↓rb_81_8, ↓rb_81_10, ↓rb_81_11, ↓rb_81_12, ↓rb_81_17, ↓rb_81_22, ↓rb_81_24, ↓rb_81_25, ↓rb_81_26, ↓rb_81_27, oc_0x, aw_1, aw_2, aw_3, oc_4_6, oc_4_5, oc_4_0, oc_4_1, oc_4_9, oc_4_2, oc_5_6, oc_5_5, oc_5_0, oc_5_1, oc_5_9, oc_5_2, oc_6_6, oc_6_5, oc_6_0, oc_6_1, oc_6_9, oc_6_2, oc_7_6, oc_7_5, oc_7_0, oc_7_1, oc_7_9, oc_7_2, oc_8_6, oc_8_5, oc_8_0, oc_8_1, oc_8_9, oc_8_2, oc_9_6, oc_9_5, oc_9_0, oc_9_1, oc_9_9, oc_9_2, oc_10x, al_11, aw_11, al_12, aw_12, al_13, aw_13, al_14, aw_14, al_15, aw_15, al_16, aw_16, al_17, aw_17, oc_18x, al_19, aw_19, al_20, aw_20, al_21, aw_21, al_22, aw_22, al_23, aw_23, al_24, aw_24, al_25, aw_25, aw_26, oc_27x, oc_28x, al_29, aw_29, al_30, aw_30, oc_31x, al_32, aw_32, al_33, aw_33, al_34, aw_34, al_35, aw_35, al_36, aw_36, oc_57x, al_58, aw_58, al_59, aw_59, al_60, aw_60, al_61, aw_61, al_62, aw_62, al_63, aw_63, al_64, aw_64, oc_65x, al_66, aw_66, al_67, aw_67, al_68, aw_68, al_69, aw_69, al_70, aw_70, al_71, aw_71, al_72, aw_72, oc_73x, al_74, aw_74, al_75, aw_75, al_76, aw_76, al_77, aw_77, al_78, aw_78, al_79, aw_79, al_80, aw_80, oc_81x, al_82, aw_82, al_83, aw_83, al_84, aw_84, al_85, aw_85, al_86, aw_86, al_87, aw_87, al_88, aw_88, al_89, aw_89, al_90, aw_90, aw_91, al_92, aw_92, al_93, aw_93, al_94, aw_94, al_95, aw_95, al_96, aw_96, al_97, aw_97, li_0, li_1, li_2, li_3, li_4, li_5, li_6, li_7, li_8, li_9, li_10, li_11, li_12, li_15, li_16, li_18, li_19, li_20, li_24, li_30, li_31, li_32, li_40, li_48, li_49, li_55, li_56, li_57, li_60, li_63, li_97, li_98, li_99, li_100, li_107, li_110, li_115, li_117, li_600, li_640, li_656, li_657, li_1000, li_2147483646, li_1000000, oc_r, oc_t, oc_k, ↓rb_r, ↓rb_rc, aw_r, al_r, ↓rb_t, ↓rb_tc, aw_t, al_t, ↓rb_k, w2_s, w2_j, w2_k, g2_s, g2_j, g2_k, al_1001, al_1000, e_lt, e_le, e_eq, e_nlt, e_nle, e_ltn, e_len, e_neq, e_eqn, e_nn, e_nlen, e_nltn, nI_add, pk_mul, e_sub, e_subn, e_addn, e_clamp, e_inb, e_inbn, e_dec, lt_ap, ll_0, ll_1, e_llt, e_leq, c_lt0, c_gt0, c_le0, nI_l, lN_add, Bool.false_eq_true, not_true_eq_false, not_false_eq_true, d_lt, d_nlt, d_le, d_nle, d_eq, d_neq, oc_c, ↓rb_c0, ↓rb_c1, ↓rb_c2, ↓rb_c3, ↓rb_c4, ↓rb_c5, ↓rb_c6, ↓rb_c7, aw_c1, aw_c2, aw_c3, aw_c4, aw_c5, aw_c6, aw_c7, al_c1, al_c2, al_c3, al_c4, al_c5, al_c6, al_c7, ↓rb_kd, isa_43, of_nI, pk_rem, e_bitN, e_1shlN, n2, ↓c6, c1, ↓f_b131_32, ll_12, lN_mul]
      · simp (maxSteps := 20000) (disch := omega) only [mk_oc, mk_aw, mk_sI, mk_sL, gi_mk, gg_mk, ↓lt_I, ↓lt_L, ↓bn_some, ↓bq_some, ↓bq_none, ↓bn_none, ↓bq_ite, ↓bn_ite, ↓bq_bind, ↓bn_bind, ↓bq_bq, ↓bn_bq, ↓bq_lt, ↓bn_lt, ↓reduceIte, ↓rb_0_0, ↓rb_0_1, ↓rb_0_2, ↓rb_0_3, ↓rb_0_4, ↓rb_0_5, ↓rb_0_6, ↓rb_0_7, ↓rb_0_8, ↓rb_0_9, ↓rb_0_10, ↓rb_1_0, ↓rb_1_1, ↓rb_1_2, ↓rb_1_3, ↓rb_1_4, ↓rb_1_5, ↓rb_2_0, ↓rb_2_1, ↓rb_2_2, ↓rb_2_3, ↓rb_3_0, ↓rb_3_1, ↓rb_3_2, ↓rb_3_3, ↓rb_3_4, ↓rb_3_5, ↓rb_10_0, ↓rb_10_1, ↓rb_10_2, ↓rb_10_3, ↓rb_10_4, ↓rb_10_5, ↓rb_10_6, ↓rb_10_7, ↓rb_18_0, ↓rb_18_1, ↓rb_18_2, ↓rb_18_3, ↓rb_18_4, ↓rb_18_5, ↓rb_18_6, ↓rb_18_7, ↓rb_26_0, ↓rb_26_1, ↓rb_26_2, ↓rb_28_0, ↓rb_28_1, ↓rb_31_0, ↓rb_31_1, ↓rb_31_2, ↓rb_37_0, ↓rb_39_0, ↓rb_41_0, ↓rb_43_0, ↓rb_45_0, ↓rb_47_0, ↓rb_49_0, ↓rb_51_0, ↓rb_53_0, ↓rb_55_0, ↓rb_57_0, ↓rb_57_1, ↓rb_57_2, ↓rb_57_3, ↓rb_57_4, ↓rb_57_5, ↓rb_57_6, ↓rb_57_7, ↓rb_65_0, ↓rb_65_1, ↓rb_65_2, ↓rb_65_3, ↓rb_65_4, ↓rb_65_5, ↓rb_65_6, ↓rb_65_7, ↓rb_73_0, ↓rb_73_1, ↓rb_73_2, ↓rb_73_3, ↓rb_73_4, ↓rb_73_5, ↓rb_73_6, ↓rb_73_7, ↓rb_81_0, ↓rb_81_1, ↓rb_81_2, ↓rb_81_3, ↓rb_81_6, ↓rb_81_7, ↓rb_81_8, ↓rb_81_10, ↓rb_81_11, ↓rb_81_12, ↓rb_81_17, ↓rb_81_22, ↓rb_81_24, ↓rb_81_25, ↓rb_81_26, ↓rb_81_27, oc_0x, aw_1, aw_2, aw_3, oc_4_6, oc_4_5, oc_4_0, oc_4_1, oc_4_9, oc_4_2, oc_5_6, oc_5_5, oc_5_0, oc_5_1, oc_5_9, oc_5_2, oc_6_6, oc_6_5, oc_6_0, oc_6_1, oc_6_9, oc_6_2, oc_7_6, oc_7_5, oc_7_0, oc_7_1, oc_7_9, oc_7_2, oc_8_6, oc_8_5, oc_8_0, oc_8_1, oc_8_9, oc_8_2, oc_9_6, oc_9_5, oc_9_0, oc_9_1, oc_9_9, oc_9_2, oc_10x, al_11, aw_11, al_12, aw_12, al_13, aw_13, al_14, aw_14, al_15, aw_15, al_16, aw_16, al_17, aw_17, oc_18x, al_19, aw_19, al_20, aw_20, al_21, aw_21, al_22, aw_22, al_23, aw_23, al_24, aw_24, al_25, aw_25, aw_26, oc_27x, oc_28x, al_29, aw_29, al_30, aw_30, oc_31x, al_32, aw_32, al_33, aw_33, al_34, aw_34, al_35, aw_35, al_36, aw_36, oc_57x, al_58, aw_58, al_59, aw_59, al_60, aw_60, al_61, aw_61, al_62, aw_62, al_63, aw_63, al_64, aw_64, oc_65x, al_66, aw_66, al_67, aw_67, al_68, aw_68, al_69, aw_69, al_70, aw_70, al_71, aw_71, al_72, aw_72, oc_73x, al_74, aw_74, al_75, aw_75, al_76, aw_76, al_77, aw_77, al_78, aw_78, al_79, aw_79, al_80, aw_80, oc_81x, al_82, aw_82, al_83, aw_83, al_84, aw_84, al_85, aw_85, al_86, aw_86, al_87, aw_87, al_88, aw_88, al_89, aw_89, al_90, aw_90, aw_91, al_92, aw_92, al_93, aw_93, al_94, aw_94, al_95, aw_95, al_96, aw_96, al_97, aw_97, li_0, li_1, li_2, li_3, li_4, li_5, li_6, li_7, li_8, li_9, li_10, li_11, li_12, li_15, li_16, li_18, li_19, li_20, li_24, li_30, li_31, li_32, li_40, li_48, li_49, li_55, li_56, li_57, li_60, li_63, li_97, li_98, li_99, li_100, li_107, li_110, li_115, li_117, li_600, li_640, li_656, li_657, li_1000, li_2147483646, li_1000000, oc_r, oc_t, oc_k, ↓rb_r, ↓rb_rc, aw_r, al_r, ↓rb_t, ↓rb_tc, aw_t, al_t, ↓rb_k, w2_s, w2_j, w2_k, g2_s, g2_j, g2_k, al_1001, al_1000, e_lt, e_le, e_eq, e_nlt, e_nle, e_ltn, e_len, e_neq, e_eqn, e_nn, e_nlen, e_nltn, nI_add, pk_mul, e_sub, e_subn, e_addn, e_clamp, e_inb, e_inbn, e_dec, lt_ap, ll_0, ll_1, e_llt, e_leq, c_lt0, c_gt0, c_le0, nI_l, lN_add, Bool.false_eq_true, not_true_eq_false, not_false_eq_true, d_lt, d_nlt, d_le, d_nle, d_eq, d_neq, oc_c, ↓rb_c0, ↓rb_c1, ↓rb_c2, ↓rb_c3, ↓rb_c4, ↓rb_c5, ↓rb_c6, ↓rb_c7, aw_c1, aw_c2, aw_c3, aw_c4, aw_c5, aw_c6, aw_c7, al_c1, al_c2, al_c3, al_c4, al_c5, al_c6, al_c7, ↓rb_kd, isa_43, of_nI, pk_rem, e_bitN, e_1shlN, n2, ↓c6, c1, ↓f_b131_32, Nat.mul_one]
  intro ω f
  rw [show m131 0 (mk I G L) = _ from key q.1 0 1000 (by omega) (by omega) (by omega)]
  rfl
theorem g_132 {I : I2} {part whole : Nat} (hw : 0 < whole) (hwl : whole ≤ 2985984) (hpl : part < 2 ^ 60) : ∀ (ω : Type) (f : Sx → Option ω), (m132 0 (lN part) (lN whole) (mk I G L)).bind f = f (mk I (g2 (g2 G 0 13 (lN (part / Nat.gcd whole part))) 0 14 (lN (whole / Nat.gcd whole part))) L) := by
  intro ω f
  have hg : 0 < Nat.gcd whole part := Nat.gcd_pos_of_pos_left _ hw
  have h2 := St_of 60 whole part hpl
  have := p_132 I G L hw (Nat.lt_of_le_of_lt hwl (by decide)) hpl (2 * 60) whole part 0 1000 h2 (by decide) (by decide) (Nat.lt_of_le_of_lt hwl (by decide)) hpl hg
  rw [show m132 0 (lN part) (lN whole) (mk I G L) = _ from this]
  rfl
theorem q_228 {I : I2} {part whole : Nat} (hw : 0 < whole) (hwl : whole ≤ 2985984) (hpl : part < 2 ^ 60) : ∀ (ω : Type) (f : Int32 → Sx → Option ω), bq (m228 81 (lN part) (lN whole) (mk I G L)) f = f (nI 1) (mk I (g2 (g2 G 81 14 (lN (part / Nat.gcd whole part))) 81 15 (lN (whole / Nat.gcd whole part))) L) := by
  intro ω f
  have hg : 0 < Nat.gcd part whole := Nat.gcd_pos_of_pos_right _ hw
  have hwl2 : whole < 2 ^ 60 := Nat.lt_of_le_of_lt hwl (by decide)
  have h2 := St_of 60 part whole hwl2
  have := p_228 I G L hwl2 hpl (2 * 60) part whole 1000 h2 (by decide) hpl hwl2 hg
  rw [Nat.gcd_comm part whole] at this
  rw [show m228 81 (lN part) (lN whole) (mk I G L) = _ from this]
  rfl
end ODDSC
