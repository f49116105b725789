/-! ===== what holds between two calls ===== -/
def Ag (P : Nat → Nat → Prop) (I I' : I2) : Prop := ∀ k j, P k j → I' k j = I k j
def fill (I : I2) (k a b : Nat) (v : Int32) : I2 := fun k' j' => if k' = k ∧ a ≤ j' ∧ j' < b then v else I k' j'
theorem fill_nil (I : I2) (k a : Nat) (v : Int32) : fill I k a a v = I := by
  funext k' j'
  unfold fill
  rw [if_neg (by omega)]
theorem fill_step (I : I2) (k a b : Nat) (v : Int32) (h : a < b) : fill (w2 I k a v) k (a + 1) b v = fill I k a b v := by
  funext k' j'
  unfold fill w2
  by_cases hk : k' = k
  · subst hk
    by_cases hj : j' = a
    · subst hj
      rw [if_neg (by omega), if_pos rfl, if_pos rfl, if_pos (by omega)]
    · by_cases hl : a + 1 ≤ j' ∧ j' < b
      · rw [if_pos (by omega), if_pos (by omega)]
      · rw [if_neg (by omega), if_pos rfl, if_neg hj, if_neg (by omega)]
  · rw [if_neg (by omega), if_neg hk, if_neg (by omega)]
theorem fill_ne (I : I2) {k a b : Nat} {v : Int32} {k' j' : Nat} (h : ¬ (k' = k ∧ a ≤ j' ∧ j' < b)) : fill I k a b v k' j' = I k' j' := by
  unfold fill
  rw [if_neg h]
theorem fill_in (I : I2) {k a b : Nat} {v : Int32} {j' : Nat} (h : a ≤ j' ∧ j' < b) : fill I k a b v k j' = v := by
  unfold fill
  rw [if_pos ⟨rfl, h⟩]
theorem w2_ne (I : I2) {k j : Nat} {v : Int32} {k' j' : Nat} (h : ¬ (k' = k ∧ j' = j)) : w2 I k j v k' j' = I k' j' := by
  unfold w2
  by_cases hk : k' = k
  · rw [if_pos hk, if_neg (by omega)]
  · rw [if_neg hk]
/-- one row: in the class at o (its size) and c (its places), in the reference at s (its size) and d (its places, w each) -/
def RO (I : I2) (o c s d w r : Nat) : Prop := (I o 1 = -nI 1 ∧ I s r = -nI 1) ∨ ∃ n, n ≤ w ∧ I o 1 = nI n ∧ I s r = nI n ∧ ∀ i, i < n → I c i = I d (w * r + i)
theorem RO_ag {I I' : I2} {o c s d w r : Nat} (h : RO I o c s d w r) (h1 : I' o 1 = I o 1) (h2 : ∀ i, i < w → I' c i = I c i) (h3 : I' s r = I s r) (h4 : ∀ i, i < w → I' d (w * r + i) = I d (w * r + i)) : RO I' o c s d w r := by
  rcases h with ⟨a, b⟩ | ⟨n, hn, a, b, e⟩
  · exact Or.inl ⟨by rw [h1, a], by rw [h3, b]⟩
  · exact Or.inr ⟨n, hn, by rw [h1, a], by rw [h3, b], fun i hi => by rw [h2 i (by omega), h4 i (by omega), e i hi]⟩
def InvR (I : I2) : Prop := ∀ r, r < 6 → RO I (37 + 2 * r) (38 + 2 * r) 82 83 40 r
def InvT (I : I2) : Prop := ∀ r, r < 4 → RO I (49 + 2 * r) (50 + 2 * r) 84 85 60 r
def InvF (I : I2) : Prop := I 0 11 = I 81 16 ∧ ∀ f, f < 6 → I 36 f = I 92 f
def InvA (I : I2) (G : G2) : Prop := I 0 12 = I 81 13 ∧ G 0 13 = G 81 14 ∧ G 0 14 = G 81 15
def InvL (I : I2) : Prop := ∀ j, j < 6 → I 1001 j = letL.getD j 0
def PR (k _j : Nat) : Prop := (37 ≤ k ∧ k ≤ 48) ∨ k = 82 ∨ k = 83
def PT (k _j : Nat) : Prop := (49 ≤ k ∧ k ≤ 56) ∨ k = 84 ∨ k = 85
def PF (k j : Nat) : Prop := (k = 0 ∧ j = 11) ∨ (k = 81 ∧ j = 16) ∨ k = 36 ∨ k = 92
def PA (k j : Nat) : Prop := (k = 0 ∧ j = 12) ∨ (k = 81 ∧ j = 13)
def PL (k _j : Nat) : Prop := k = 1000 ∨ k = 1001
def PC (k j : Nat) : Prop := (10 ≤ k ∧ k ≤ 17) ∨ (57 ≤ k ∧ k ≤ 80) ∨ (86 ≤ k ∧ k ≤ 91) ∨ (k = 81 ∧ (j = 4 ∨ j = 5 ∨ j = 9))
theorem InvR.ag {I I' : I2} (h : InvR I) (a : Ag PR I I') : InvR I' := fun r hr => RO_ag (h r hr) (a _ _ (by unfold PR; omega)) (fun i _ => a _ _ (by unfold PR; omega)) (a _ _ (by unfold PR; omega)) (fun i _ => a _ _ (by unfold PR; omega))
theorem InvT.ag {I I' : I2} (h : InvT I) (a : Ag PT I I') : InvT I' := fun r hr => RO_ag (h r hr) (a _ _ (by unfold PT; omega)) (fun i _ => a _ _ (by unfold PT; omega)) (a _ _ (by unfold PT; omega)) (fun i _ => a _ _ (by unfold PT; omega))
theorem InvF.ag {I I' : I2} (h : InvF I) (a : Ag PF I I') : InvF I' := ⟨by rw [a 0 11 (by unfold PF; omega), a 81 16 (by unfold PF; omega), h.1], fun f hf => by rw [a 36 f (by unfold PF; omega), a 92 f (by unfold PF; omega), h.2 f hf]⟩
theorem InvA.ag {I I' : I2} {G : G2} (h : InvA I G) (a : Ag PA I I') : InvA I' G := ⟨by rw [a 0 12 (by unfold PA; omega), a 81 13 (by unfold PA; omega), h.1], h.2⟩
theorem InvL.ag {I I' : I2} (h : InvL I) (a : Ag PL I I') : InvL I' := fun j hj => by rw [a 1001 j (by unfold PL; omega), h j hj]
/-! refusals, findings -/
theorem p_found (f : Nat) (hf : f < 6) (I : I2) (G : G2) (L : Nat) : m151 81 (nI f) (mk I G L) = some (-3, mk (w2 (w2 I 81 16 (nI f)) 92 f (I 92 f + 1)) G L) := by
  rw [f_m151]
  simp (maxSteps := 20000) (disch := omega) only [mk_oc, mk_aw, mk_sI, mk_sL, gi_mk, gg_mk, ↓lt_I, ↓lt_L, ↓bn_some, ↓bq_some, ↓bq_none, ↓bn_none, ↓bq_ite, ↓bn_ite, ↓bq_bind, ↓bn_bind, ↓bq_bq, ↓bn_bq, ↓bq_lt, ↓bn_lt, ↓reduceIte, ↓rb_0_0, ↓rb_0_1, ↓rb_0_2, ↓rb_0_3, ↓rb_0_4, ↓rb_0_5, ↓rb_0_6, ↓rb_0_7, ↓rb_0_8, ↓rb_0_9, ↓rb_0_10, ↓rb_1_0, ↓rb_1_1, ↓rb_1_2, ↓rb_1_3, ↓rb_1_4, ↓rb_1_5, ↓rb_2_0, ↓rb_2_1, ↓rb_2_2, ↓rb_2_3, ↓rb_3_0, ↓rb_3_1, ↓rb_3_2, ↓rb_3_3, ↓rb_3_4, ↓rb_3_5, ↓rb_10_0, ↓rb_10_1, ↓rb_10_2, ↓rb_10_3, ↓rb_10_4, ↓rb_10_5, ↓rb_10_6, ↓rb_10_7, ↓rb_18_0, ↓rb_18_1, ↓rb_18_2, ↓rb_18_3, ↓rb_18_4, ↓rb_18_5, ↓rb_18_6, ↓rb_18_7, ↓rb_26_0, ↓rb_26_1, ↓rb_26_2, ↓rb_28_0, ↓rb_28_1, ↓rb_31_0, ↓rb_31_1, ↓rb_31_2, ↓rb_37_0, ↓rb_39_0, ↓rb_41_0, ↓rb_43_0, ↓rb_45_0, ↓rb_47_0, ↓rb_49_0, ↓rb_51_0, ↓rb_53_0, ↓rb_55_0, ↓rb_57_0, ↓rb_57_1, ↓rb_57_2, ↓rb_57_3, ↓rb_57_4, ↓rb_57_5, ↓rb_57_6, ↓rb_57_7, ↓rb_65_0, ↓rb_65_1, ↓rb_65_2, ↓rb_65_3, ↓rb_65_4, ↓rb_65_5, ↓rb_65_6, ↓rb_65_7, ↓rb_73_0, ↓rb_73_1, ↓rb_73_2, ↓rb_73_3, ↓rb_73_4, ↓rb_73_5, ↓rb_73_6, ↓rb_73_7, ↓rb_81_0, ↓rb_81_1, ↓rb_81_2, ↓rb_81_3, ↓rb_81_6, ↓rb_81_7, ↓rb_81_8, ↓rb_81_10, ↓rb_81_11, ↓rb_81_12, ↓rb_81_17, ↓rb_81_22, ↓rb_81_24, ↓rb_81_25, ↓rb_81_26, ↓rb_81_27, oc_0x, aw_1, aw_2, aw_3, oc_4_6, oc_4_5, oc_4_0, oc_4_1, oc_4_9, oc_4_2, oc_5_6, oc_5_5, oc_5_0, oc_5_1, oc_5_9, oc_5_2, oc_6_6, oc_6_5, oc_6_0, oc_6_1, oc_6_9, oc_6_2, oc_7_6, oc_7_5, oc_7_0, oc_7_1, oc_7_9, oc_7_2, oc_8_6, oc_8_5, oc_8_0, oc_8_1, oc_8_9, oc_8_2, oc_9_6, oc_9_5, oc_9_0, oc_9_1, oc_9_9, oc_9_2, oc_10x, al_11, aw_11, al_12, aw_12, al_13, aw_13, al_14, aw_14, al_15, aw_15, al_16, aw_16, al_17, aw_17, oc_18x, al_19, aw_19, al_20, aw_20, al_21, aw_21, al_22, aw_22, al_23, aw_23, al_24, aw_24, al_25, aw_25, aw_26, oc_27x, oc_28x, al_29, aw_29, al_30, aw_30, oc_31x, al_32, aw_32, al_33, aw_33, al_34, aw_34, al_35, aw_35, al_36, aw_36, oc_57x, al_58, aw_58, al_59, aw_59, al_60, aw_60, al_61, aw_61, al_62, aw_62, al_63, aw_63, al_64, aw_64, oc_65x, al_66, aw_66, al_67, aw_67, al_68, aw_68, al_69, aw_69, al_70, aw_70, al_71, aw_71, al_72, aw_72, oc_73x, al_74, aw_74, al_75, aw_75, al_76, aw_76, al_77, aw_77, al_78, aw_78, al_79, aw_79, al_80, aw_80, oc_81x, al_82, aw_82, al_83, aw_83, al_84, aw_84, al_85, aw_85, al_86, aw_86, al_87, aw_87, al_88, aw_88, al_89, aw_89, al_90, aw_90, aw_91, al_92, aw_92, al_93, aw_93, al_94, aw_94, al_95, aw_95, al_96, aw_96, al_97, aw_97, li_0, li_1, li_2, li_3, li_4, li_5, li_6, li_7, li_8, li_9, li_10, li_11, li_12, li_15, li_16, li_18, li_19, li_20, li_24, li_30, li_31, li_32, li_40, li_48, li_49, li_55, li_56, li_57, li_60, li_63, li_97, li_98, li_99, li_100, li_107, li_110, li_115, li_117, li_600, li_640, li_656, li_657, li_1000, li_2147483646, li_1000000, oc_r, oc_t, oc_k, ↓rb_r, ↓rb_rc, aw_r, al_r, ↓rb_t, ↓rb_tc, aw_t, al_t, ↓rb_k, w2_s, w2_j, w2_k, g2_s, g2_j, g2_k, al_1001, al_1000, e_lt, e_le, e_eq, e_nlt, e_nle, e_ltn, e_len, e_neq, e_eqn, e_nn, e_nlen, e_nltn, nI_add, pk_mul, e_sub, e_subn, e_addn, e_clamp, e_inb, e_inbn, e_dec, lt_ap, ll_0, ll_1, e_llt, e_leq, c_lt0, c_gt0, c_le0, nI_l, lN_add, Bool.false_eq_true, not_true_eq_false, not_false_eq_true, d_lt, d_nlt, d_le, d_nle, d_eq, d_neq]
theorem p_14 (x : Int32) (S : Sx) : m14 x S = some (if x < nI 0 then 1 else if x < nI 6 then 0 else 1, S) := by
  unfold m14
  by_cases h1 : x < 0
  · rw [if_pos h1, if_pos (show x < nI 0 from h1)]
  · rw [if_neg h1, if_neg (show ¬ x < nI 0 from h1)]
    by_cases h2 : x < 6
    · rw [if_pos h2, if_pos (show x < nI 6 from h2)]
    · rw [if_neg h2, if_neg (show ¬ x < nI 6 from h2)]
theorem p_28 (x : Int32) (S : Sx) : m28 x S = some (if x < nI 0 then 1 else if x < nI 4 then 0 else 1, S) := by
  unfold m28
  by_cases h1 : x < 0
  · rw [if_pos h1, if_pos (show x < nI 0 from h1)]
  · rw [if_neg h1, if_neg (show ¬ x < nI 0 from h1)]
    by_cases h2 : x < 4
    · rw [if_pos h2, if_pos (show x < nI 4 from h2)]
    · rw [if_neg h2, if_neg (show ¬ x < nI 4 from h2)]
theorem p_in0 (x z : Int32) (S : Sx) : m150 x.toInt64 0 z.toInt64 S = some (if x < nI 0 then 0 else if z < x then 0 else 1, S) := p_in x 0 z S
theorem p_149 (x : Int32) (S : Sx) : m149 x S = some (if x < nI 0 then 0 else if nI 5 < x then 0 else 1, S) := by
  unfold m149
  rw [show m150 x.toInt64 0 5 S = _ from p_in x 0 5 S, bs_some]
  show some ((if x < nI 0 then (0 : Int32) else if nI 5 < x then 0 else 1) &&& 1, S) = _
  split
  · rfl
  · split <;> rfl
theorem p_159 (x : Int32) (S : Sx) : m159 x S = some (if x < nI 0 then 0 else if nI 3 < x then 0 else 1, S) := by
  unfold m159
  rw [show m150 x.toInt64 0 3 S = _ from p_in x 0 3 S, bs_some]
  show some ((if x < nI 0 then (0 : Int32) else if nI 3 < x then 0 else 1) &&& 1, S) = _
  split
  · rfl
  · split <;> rfl
theorem q_14 {α : Type} (x : Int32) (S : Sx) (f : Int32 → Sx → Option α) : bq (m14 x S) f = f (if x < nI 0 then 1 else if x < nI 6 then 0 else 1) (S) := by rw [p_14]; rfl
theorem q_28 {α : Type} (x : Int32) (S : Sx) (f : Int32 → Sx → Option α) : bq (m28 x S) f = f (if x < nI 0 then 1 else if x < nI 4 then 0 else 1) (S) := by rw [p_28]; rfl
theorem q_in0 {α : Type} (x z : Int32) (S : Sx) (f : Int32 → Sx → Option α) : bq (m150 x.toInt64 0 z.toInt64 S) f = f (if x < nI 0 then 0 else if z < x then 0 else 1) (S) := by rw [p_in0]; rfl
theorem q_149 {α : Type} (x : Int32) (S : Sx) (f : Int32 → Sx → Option α) : bq (m149 x S) f = f (if x < nI 0 then 0 else if nI 5 < x then 0 else 1) (S) := by rw [p_149]; rfl
theorem q_159 {α : Type} (x : Int32) (S : Sx) (f : Int32 → Sx → Option α) : bq (m159 x S) f = f (if x < nI 0 then 0 else if nI 3 < x then 0 else 1) (S) := by rw [p_159]; rfl
theorem q_find1 {α : Type} (I : I2) (G : G2) (L : Nat) (f : Int32 → Sx → Option α) : bq (m15 0 1 (mk I G L)) f = f (-3) (mk (w2 (w2 I 0 11 (nI 1)) 36 1 (I 36 1 + 1)) G L) := by rw [show (1 : Int32) = nI 1 from rfl, p_find 1 (by decide)]; rfl
theorem q_find2 {α : Type} (I : I2) (G : G2) (L : Nat) (f : Int32 → Sx → Option α) : bq (m15 0 2 (mk I G L)) f = f (-3) (mk (w2 (w2 I 0 11 (nI 2)) 36 2 (I 36 2 + 1)) G L) := by rw [show (2 : Int32) = nI 2 from rfl, p_find 2 (by decide)]; rfl
theorem q_find3 {α : Type} (I : I2) (G : G2) (L : Nat) (f : Int32 → Sx → Option α) : bq (m15 0 3 (mk I G L)) f = f (-3) (mk (w2 (w2 I 0 11 (nI 3)) 36 3 (I 36 3 + 1)) G L) := by rw [show (3 : Int32) = nI 3 from rfl, p_find 3 (by decide)]; rfl
theorem q_find4 {α : Type} (I : I2) (G : G2) (L : Nat) (f : Int32 → Sx → Option α) : bq (m15 0 4 (mk I G L)) f = f (-3) (mk (w2 (w2 I 0 11 (nI 4)) 36 4 (I 36 4 + 1)) G L) := by rw [show (4 : Int32) = nI 4 from rfl, p_find 4 (by decide)]; rfl
theorem q_find5 {α : Type} (I : I2) (G : G2) (L : Nat) (f : Int32 → Sx → Option α) : bq (m15 0 5 (mk I G L)) f = f (-3) (mk (w2 (w2 I 0 11 (nI 5)) 36 5 (I 36 5 + 1)) G L) := by rw [show (5 : Int32) = nI 5 from rfl, p_find 5 (by decide)]; rfl
theorem bd_eta {o : Option (Int32 × Sx)} : (bq o fun v T => some (v, T)) = o := by
  cases o <;> rfl
theorem bd_eta1 {o : Option Sx} : (o.bind fun q => some q) = o := by
  cases o <;> rfl
/-- a row is filled -/
theorem p_fill {o c N n : Nat} (ho : ocs o 8 = true) (hr : rf0 o 0 = some c) (hw : aws 1 c = N) (hc : o ≠ c) (hnN : n ≤ N) (hN : N < 1000) (v : Int32) (G : G2) (L : Nat) : ∀ d i f (I : I2), n - i = d → i ≤ n → d < f → I o 1 = nI n → l16_15 f o v (nI i) (mk I G L) = some (mk (fill I c i n v) G L) := by
  intro d
  induction d with
  | zero =>
    intro i f I h1 h2 h3 hI
    obtain ⟨g, rfl⟩ : ∃ g, f = g + 1 := ⟨f - 1, by omega⟩
    obtain rfl : i = n := by omega
    show b16_15 _ _ _ _ _ = _
    rw [f_b16_15]
    simp (maxSteps := 20000) (disch := omega) only [mk_oc, mk_aw, mk_sI, mk_sL, gi_mk, gg_mk, ↓lt_I, ↓lt_L, ↓bn_some, ↓bq_some, ↓bq_none, ↓bn_none, ↓bq_ite, ↓bn_ite, ↓bq_bind, ↓bn_bind, ↓bq_bq, ↓bn_bq, ↓bq_lt, ↓bn_lt, ↓reduceIte, ↓rb_0_0, ↓rb_0_1, ↓rb_0_2, ↓rb_0_3, ↓rb_0_4, ↓rb_0_5, ↓rb_0_6, ↓rb_0_7, ↓rb_0_8, ↓rb_0_9, ↓rb_0_10, ↓rb_1_0, ↓rb_1_1, ↓rb_1_2, ↓rb_1_3, ↓rb_1_4, ↓rb_1_5, ↓rb_2_0, ↓rb_2_1, ↓rb_2_2, ↓rb_2_3, ↓rb_3_0, ↓rb_3_1, ↓rb_3_2, ↓rb_3_3, ↓rb_3_4, ↓rb_3_5, ↓rb_10_0, ↓rb_10_1, ↓rb_10_2, ↓rb_10_3, ↓rb_10_4, ↓rb_10_5, ↓rb_10_6, ↓rb_10_7, ↓rb_18_0, ↓rb_18_1, ↓rb_18_2, ↓rb_18_3, ↓rb_18_4, ↓rb_18_5, ↓rb_18_6, ↓rb_18_7, ↓rb_26_0, ↓rb_26_1, ↓rb_26_2, ↓rb_28_0, ↓rb_28_1, ↓rb_31_0, ↓rb_31_1, ↓rb_31_2, ↓rb_37_0, ↓rb_39_0, ↓rb_41_0, ↓rb_43_0, ↓rb_45_0, ↓rb_47_0, ↓rb_49_0, ↓rb_51_0, ↓rb_53_0, ↓rb_55_0, ↓rb_57_0, ↓rb_57_1, ↓rb_57_2, ↓rb_57_3, ↓rb_57_4, ↓rb_57_5, ↓rb_57_6, ↓rb_57_7, ↓rb_65_0, ↓rb_65_1, ↓rb_65_2, ↓rb_65_3, ↓rb_65_4, ↓rb_65_5, ↓rb_65_6, ↓rb_65_7, ↓rb_73_0, ↓rb_73_1, ↓rb_73_2, ↓rb_73_3, ↓rb_73_4, ↓rb_73_5, ↓rb_73_6, ↓rb_73_7, ↓rb_81_0, ↓rb_81_1, ↓rb_81_2, ↓rb_81_3, ↓rb_81_6, ↓rb_81_7, ↓rb_81_8, ↓rb_81_10, ↓rb_81_11, ↓rb_81_12, ↓rb_81_17, ↓rb_81_22, ↓rb_81_24, ↓rb_81_25, ↓rb_81_26, ↓rb_81_27, oc_0x, aw_1, aw_2, aw_3, oc_4_6, oc_4_5, oc_4_0, oc_4_1, oc_4_9, oc_4_2, oc_5_6, oc_5_5, oc_5_0, oc_5_1, oc_5_9, oc_5_2, oc_6_6, oc_6_5, oc_6_0, oc_6_1, oc_6_9, oc_6_2, oc_7_6, oc_7_5, oc_7_0, oc_7_1, oc_7_9, oc_7_2, oc_8_6, oc_8_5, oc_8_0, oc_8_1, oc_8_9, oc_8_2, oc_9_6, oc_9_5, oc_9_0, oc_9_1, oc_9_9, oc_9_2, oc_10x, al_11, aw_11, al_12, aw_12, al_13, aw_13, al_14, aw_14, al_15, aw_15, al_16, aw_16, al_17, aw_17, oc_18x, al_19, aw_19, al_20, aw_20, al_21, aw_21, al_22, aw_22, al_23, aw_23, al_24, aw_24, al_25, aw_25, aw_26, oc_27x, oc_28x, al_29, aw_29, al_30, aw_30, oc_31x, al_32, aw_32, al_33, aw_33, al_34, aw_34, al_35, aw_35, al_36, aw_36, oc_57x, al_58, aw_58, al_59, aw_59, al_60, aw_60, al_61, aw_61, al_62, aw_62, al_63, aw_63, al_64, aw_64, oc_65x, al_66, aw_66, al_67, aw_67, al_68, aw_68, al_69, aw_69, al_70, aw_70, al_71, aw_71, al_72, aw_72, oc_73x, al_74, aw_74, al_75, aw_75, al_76, aw_76, al_77, aw_77, al_78, aw_78, al_79, aw_79, al_80, aw_80, oc_81x, al_82, aw_82, al_83, aw_83, al_84, aw_84, al_85, aw_85, al_86, aw_86, al_87, aw_87, al_88, aw_88, al_89, aw_89, al_90, aw_90, aw_91, al_92, aw_92, al_93, aw_93, al_94, aw_94, al_95, aw_95, al_96, aw_96, al_97, aw_97, li_0, li_1, li_2, li_3, li_4, li_5, li_6, li_7, li_8, li_9, li_10, li_11, li_12, li_15, li_16, li_18, li_19, li_20, li_24, li_30, li_31, li_32, li_40, li_48, li_49, li_55, li_56, li_57, li_60, li_63, li_97, li_98, li_99, li_100, li_107, li_110, li_115, li_117, li_600, li_640, li_656, li_657, li_1000, li_2147483646, li_1000000, oc_r, oc_t, oc_k, ↓rb_r, ↓rb_rc, aw_r, al_r, ↓rb_t, ↓rb_tc, aw_t, al_t, ↓rb_k, w2_s, w2_j, w2_k, g2_s, g2_j, g2_k, al_1001, al_1000, e_lt, e_le, e_eq, e_nlt, e_nle, e_ltn, e_len, e_neq, e_eqn, e_nn, e_nlen, e_nltn, nI_add, pk_mul, e_sub, e_subn, e_addn, e_clamp, e_inb, e_inbn, e_dec, lt_ap, ll_0, ll_1, e_llt, e_leq, c_lt0, c_gt0, c_le0, nI_l, lN_add, Bool.false_eq_true, not_true_eq_false, not_false_eq_true, d_lt, d_nlt, d_le, d_nle, d_eq, d_neq, ho, hI, Nat.le_refl, fill_nil]
  | succ d ih =>
    intro i f I h1 h2 h3 hI
    obtain ⟨g, rfl⟩ : ∃ g, f = g + 1 := ⟨f - 1, by omega⟩
    show b16_15 _ _ _ _ _ = _
    rw [f_b16_15]
    have hrb : ∀ f : Nat → Option Sx, (gr (mk I G L) o 0).bind f = f c := fun f => by rw [gr_mk, hr]; rfl
    simp (maxSteps := 20000) (disch := omega) only [mk_oc, mk_aw, mk_sI, mk_sL, gi_mk, gg_mk, ↓lt_I, ↓lt_L, ↓bn_some, ↓bq_some, ↓bq_none, ↓bn_none, ↓bq_ite, ↓bn_ite, ↓bq_bind, ↓bn_bind, ↓bq_bq, ↓bn_bq, ↓bq_lt, ↓bn_lt, ↓reduceIte, ↓rb_0_0, ↓rb_0_1, ↓rb_0_2, ↓rb_0_3, ↓rb_0_4, ↓rb_0_5, ↓rb_0_6, ↓rb_0_7, ↓rb_0_8, ↓rb_0_9, ↓rb_0_10, ↓rb_1_0, ↓rb_1_1, ↓rb_1_2, ↓rb_1_3, ↓rb_1_4, ↓rb_1_5, ↓rb_2_0, ↓rb_2_1, ↓rb_2_2, ↓rb_2_3, ↓rb_3_0, ↓rb_3_1, ↓rb_3_2, ↓rb_3_3, ↓rb_3_4, ↓rb_3_5, ↓rb_10_0, ↓rb_10_1, ↓rb_10_2, ↓rb_10_3, ↓rb_10_4, ↓rb_10_5, ↓rb_10_6, ↓rb_10_7, ↓rb_18_0, ↓rb_18_1, ↓rb_18_2, ↓rb_18_3, ↓rb_18_4, ↓rb_18_5, ↓rb_18_6, ↓rb_18_7, ↓rb_26_0, ↓rb_26_1, ↓rb_26_2, ↓rb_28_0, ↓rb_28_1, ↓rb_31_0, ↓rb_31_1, ↓rb_31_2, ↓rb_37_0, ↓rb_39_0, ↓rb_41_0, ↓rb_43_0, ↓rb_45_0, ↓rb_47_0, ↓rb_49_0, ↓rb_51_0, ↓rb_53_0, ↓rb_55_0, ↓rb_57_0, ↓rb_57_1, ↓rb_57_2, ↓rb_57_3, ↓rb_57_4, ↓rb_57_5, ↓rb_57_6, ↓rb_57_7, ↓rb_65_0, ↓rb_65_1, ↓rb_65_2, ↓rb_65_3, ↓rb_65_4, ↓rb_65_5, ↓rb_65_6, ↓rb_65_7, ↓rb_73_0, ↓rb_73_1, ↓rb_73_2, ↓rb_73_3, ↓rb_73_4, ↓rb_73_5, ↓rb_73_6, ↓rb_73_7, ↓rb_81_0, ↓rb_81_1, ↓rb_81_2, ↓rb_81_3, ↓rb_81_6, ↓rb_81_7, ↓rb_81_8, ↓rb_81_10, ↓rb_81_11, ↓rb_81_12, ↓rb_81_17, ↓rb_81_22, ↓rb_81_24, ↓rb_81_25, ↓rb_81_26, ↓rb_81_27, oc_0x, aw_1, aw_2, aw_3, oc_4_6, oc_4_5, oc_4_0, oc_4_1, oc_4_9, oc_4_2, oc_5_6, oc_5_5, oc_5_0, oc_5_1, oc_5_9, oc_5_2, oc_6_6, oc_6_5, oc_6_0, oc_6_1, oc_6_9, oc_6_2, oc_7_6, oc_7_5, oc_7_0, oc_7_1, oc_7_9, oc_7_2, oc_8_6, oc_8_5, oc_8_0, oc_8_1, oc_8_9, oc_8_2, oc_9_6, oc_9_5, oc_9_0, oc_9_1, oc_9_9, oc_9_2, oc_10x, al_11, aw_11, al_12, aw_12, al_13, aw_13, al_14, aw_14, al_15, aw_15, al_16, aw_16, al_17, aw_17, oc_18x, al_19, aw_19, al_20, aw_20, al_21, aw_21, al_22, aw_22, al_23, aw_23, al_24, aw_24, al_25, aw_25, aw_26, oc_27x, oc_28x, al_29, aw_29, al_30, aw_30, oc_31x, al_32, aw_32, al_33, aw_33, al_34, aw_34, al_35, aw_35, al_36, aw_36, oc_57x, al_58, aw_58, al_59, aw_59, al_60, aw_60, al_61, aw_61, al_62, aw_62, al_63, aw_63, al_64, aw_64, oc_65x, al_66, aw_66, al_67, aw_67, al_68, aw_68, al_69, aw_69, al_70, aw_70, al_71, aw_71, al_72, aw_72, oc_73x, al_74, aw_74, al_75, aw_75, al_76, aw_76, al_77, aw_77, al_78, aw_78, al_79, aw_79, al_80, aw_80, oc_81x, al_82, aw_82, al_83, aw_83, al_84, aw_84, al_85, aw_85, al_86, aw_86, al_87, aw_87, al_88, aw_88, al_89, aw_89, al_90, aw_90, aw_91, al_92, aw_92, al_93, aw_93, al_94, aw_94, al_95, aw_95, al_96, aw_96, al_97, aw_97, li_0, li_1, li_2, li_3, li_4, li_5, li_6, li_7, li_8, li_9, li_10, li_11, li_12, li_15, li_16, li_18, li_19, li_20, li_24, li_30, li_31, li_32, li_40, li_48, li_49, li_55, li_56, li_57, li_60, li_63, li_97, li_98, li_99, li_100, li_107, li_110, li_115, li_117, li_600, li_640, li_656, li_657, li_1000, li_2147483646, li_1000000, oc_r, oc_t, oc_k, ↓rb_r, ↓rb_rc, aw_r, al_r, ↓rb_t, ↓rb_tc, aw_t, al_t, ↓rb_k, w2_s, w2_j, w2_k, g2_s, g2_j, g2_k, al_1001, al_1000, e_lt, e_le, e_eq, e_nlt, e_nle, e_ltn, e_len, e_neq, e_eqn, e_nn, e_nlen, e_nltn, nI_add, pk_mul, e_sub, e_subn, e_addn, e_clamp, e_inb, e_inbn, e_dec, lt_ap, ll_0, ll_1, e_llt, e_leq, c_lt0, c_gt0, c_le0, nI_l, lN_add, Bool.false_eq_true, not_true_eq_false, not_false_eq_true, d_lt, d_nlt, d_le, d_nle, d_eq, d_neq, ho, hI, ↓hrb, hw]
    rw [ih (i + 1) g (w2 I c i v) (by omega) (by omega) (by omega) (by rw [w2_k _ hc, hI]), fill_step _ _ _ _ _ (by omega)]
theorem p_make {o c N n : Nat} (ho : ocs o 8 = true) (hr : rf0 o 0 = some c) (hw : aws 1 c = N) (hc : o ≠ c) (h98 : c < 98) (h0 : 0 < N) (hnN : n ≤ N) (hN : N < 1000) (v : Int32) (I : I2) (G : G2) (L : Nat) : m16 o (nI n) v (mk I G L) = some (mk (fill (w2 I o 1 (nI n)) c 0 n v) G L) := by
  rw [f_m16]
  have hi : isa (mk I G L) 1 c = true := by
    rw [mk_isa]
    unfold aws at hw
    cases q : (Nat.blt c 98 && Nat.beq (shp c).1 1) with
    | true => rfl
    | false =>
      rw [q] at hw
      have h2 : 0 = N := hw
      omega
  have ha : Int32.ofNat (al (mk I G L) c) = nI N := by rw [mk_al _ _ _ h98, hw]; rfl
  have hrb : ∀ f : Nat → Option Sx, (gr (mk I G L) o 0).bind f = f c := fun f => by rw [gr_mk, hr]; rfl
  have hl := p_fill ho hr hw hc hnN hN v G L n 0 1000 (w2 I o 1 (nI n)) (by omega) (by omega) (by omega) (by rw [w2_s])
  simp (maxSteps := 20000) (disch := omega) only [mk_oc, mk_aw, mk_sI, mk_sL, gi_mk, gg_mk, ↓lt_I, ↓lt_L, ↓bn_some, ↓bq_some, ↓bq_none, ↓bn_none, ↓bq_ite, ↓bn_ite, ↓bq_bind, ↓bn_bind, ↓bq_bq, ↓bn_bq, ↓bq_lt, ↓bn_lt, ↓reduceIte, ↓rb_0_0, ↓rb_0_1, ↓rb_0_2, ↓rb_0_3, ↓rb_0_4, ↓rb_0_5, ↓rb_0_6, ↓rb_0_7, ↓rb_0_8, ↓rb_0_9, ↓rb_0_10, ↓rb_1_0, ↓rb_1_1, ↓rb_1_2, ↓rb_1_3, ↓rb_1_4, ↓rb_1_5, ↓rb_2_0, ↓rb_2_1, ↓rb_2_2, ↓rb_2_3, ↓rb_3_0, ↓rb_3_1, ↓rb_3_2, ↓rb_3_3, ↓rb_3_4, ↓rb_3_5, ↓rb_10_0, ↓rb_10_1, ↓rb_10_2, ↓rb_10_3, ↓rb_10_4, ↓rb_10_5, ↓rb_10_6, ↓rb_10_7, ↓rb_18_0, ↓rb_18_1, ↓rb_18_2, ↓rb_18_3, ↓rb_18_4, ↓rb_18_5, ↓rb_18_6, ↓rb_18_7, ↓rb_26_0, ↓rb_26_1, ↓rb_26_2, ↓rb_28_0, ↓rb_28_1, ↓rb_31_0, ↓rb_31_1, ↓rb_31_2, ↓rb_37_0, ↓rb_39_0, ↓rb_41_0, ↓rb_43_0, ↓rb_45_0, ↓rb_47_0, ↓rb_49_0, ↓rb_51_0, ↓rb_53_0, ↓rb_55_0, ↓rb_57_0, ↓rb_57_1, ↓rb_57_2, ↓rb_57_3, ↓rb_57_4, ↓rb_57_5, ↓rb_57_6, ↓rb_57_7, ↓rb_65_0, ↓rb_65_1, ↓rb_65_2, ↓rb_65_3, ↓rb_65_4, ↓rb_65_5, ↓rb_65_6, ↓rb_65_7, ↓rb_73_0, ↓rb_73_1, ↓rb_73_2, ↓rb_73_3, ↓rb_73_4, ↓rb_73_5, ↓rb_73_6, ↓rb_73_7, ↓rb_81_0, ↓rb_81_1, ↓rb_81_2, ↓rb_81_3, ↓rb_81_6, ↓rb_81_7, ↓rb_81_8, ↓rb_81_10, ↓rb_81_11, ↓rb_81_12, ↓rb_81_17, ↓rb_81_22, ↓rb_81_24, ↓rb_81_25, ↓rb_81_26, ↓rb_81_27, oc_0x, aw_1, aw_2, aw_3, oc_4_6, oc_4_5, oc_4_0, oc_4_1, oc_4_9, oc_4_2, oc_5_6, oc_5_5, oc_5_0, oc_5_1, oc_5_9, oc_5_2, oc_6_6, oc_6_5, oc_6_0, oc_6_1, oc_6_9, oc_6_2, oc_7_6, oc_7_5, oc_7_0, oc_7_1, oc_7_9, oc_7_2, oc_8_6, oc_8_5, oc_8_0, oc_8_1, oc_8_9, oc_8_2, oc_9_6, oc_9_5, oc_9_0, oc_9_1, oc_9_9, oc_9_2, oc_10x, al_11, aw_11, al_12, aw_12, al_13, aw_13, al_14, aw_14, al_15, aw_15, al_16, aw_16, al_17, aw_17, oc_18x, al_19, aw_19, al_20, aw_20, al_21, aw_21, al_22, aw_22, al_23, aw_23, al_24, aw_24, al_25, aw_25, aw_26, oc_27x, oc_28x, al_29, aw_29, al_30, aw_30, oc_31x, al_32, aw_32, al_33, aw_33, al_34, aw_34, al_35, aw_35, al_36, aw_36, oc_57x, al_58, aw_58, al_59, aw_59, al_60, aw_60, al_61, aw_61, al_62, aw_62, al_63, aw_63, al_64, aw_64, oc_65x, al_66, aw_66, al_67, aw_67, al_68, aw_68, al_69, aw_69, al_70, aw_70, al_71, aw_71, al_72, aw_72, oc_73x, al_74, aw_74, al_75, aw_75, al_76, aw_76, al_77, aw_77, al_78, aw_78, al_79, aw_79, al_80, aw_80, oc_81x, al_82, aw_82, al_83, aw_83, al_84, aw_84, al_85, aw_85, al_86, aw_86, al_87, aw_87, al_88, aw_88, al_89, aw_89, al_90, aw_90, aw_91, al_92, aw_92, al_93, aw_93, al_94, aw_94, al_95, aw_95, al_96, aw_96, al_97, aw_97, li_0, li_1, li_2, li_3, li_4, li_5, li_6, li_7, li_8, li_9, li_10, li_11, li_12, li_15, li_16, li_18, li_19, li_20, li_24, li_30, li_31, li_32, li_40, li_48, li_49, li_55, li_56, li_57, li_60, li_63, li_97, li_98, li_99, li_100, li_107, li_110, li_115, li_117, li_600, li_640, li_656, li_657, li_1000, li_2147483646, li_1000000, oc_r, oc_t, oc_k, ↓rb_r, ↓rb_rc, aw_r, al_r, ↓rb_t, ↓rb_tc, aw_t, al_t, ↓rb_k, w2_s, w2_j, w2_k, g2_s, g2_j, g2_k, al_1001, al_1000, e_lt, e_le, e_eq, e_nlt, e_nle, e_ltn, e_len, e_neq, e_eqn, e_nn, e_nlen, e_nltn, nI_add, pk_mul, e_sub, e_subn, e_addn, e_clamp, e_inb, e_inbn, e_dec, lt_ap, ll_0, ll_1, e_llt, e_leq, c_lt0, c_gt0, c_le0, nI_l, lN_add, Bool.false_eq_true, not_true_eq_false, not_false_eq_true, d_lt, d_nlt, d_le, d_nle, d_eq, d_neq, ho, ↓hrb, hi, ha, Bool.or_true, ↓g_m17, hl]
/-! ===== a country: how many doors, places, their kinds, prices, the first state v, what was done ===== -/
def entK (P κ s l h : Nat) : Nat := if κ = 5 then (s + h) % P else if κ = 2 ∨ κ = 4 then l else s
def extK (κ s l : Nat) : Nat := if κ = 2 ∨ κ = 4 then s else l
def opnK (κ h : Nat) : Bool := if κ = 1 ∨ κ = 5 then decide (h % 2 = 0) else if κ = 3 then decide (h % 3 = 0) else true
def hrsK (κ : Nat) : Nat := if κ = 1 then 2 else if κ = 4 then 3 else 1
def cstK (κ p : Nat) : Nat := if κ = 2 then p / 2 else if κ = 4 then p / 2 + 3 else if κ = 3 then 1 else p
def vup (v : Nat → Nat) (k x : Nat) : Nat → Nat := fun j => if j = k then x else v j
/-- the statics of a country: doors, places, kinds, prices -/
abbrev Cs : Type := Nat × Nat × (Nat → Nat) × (Nat → Nat)
def ent (q : Cs) (v : Nat → Nat) (i h : Nat) : Nat := entK q.2.1 (q.2.2.1 i) (v (4 + i)) (v (10 + i)) h
def ext (q : Cs) (v : Nat → Nat) (i : Nat) : Nat := extK (q.2.2.1 i) (v (4 + i)) (v (10 + i))
def opn (q : Cs) (i h : Nat) : Bool := opnK (q.2.2.1 i) h
def hrs (q : Cs) (i : Nat) : Nat := hrsK (q.2.2.1 i)
def cst (q : Cs) (i : Nat) : Nat := cstK (q.2.2.1 i) (q.2.2.2 i)
def stepv (q : Cs) (v : Nat → Nat) (e : Nat) : Nat → Nat :=
  if e = 6 then vup (vup v 0 ((v 0 + 1) % q.2.1)) 1 (v 1 + 3)
  else if e = 7 then vup v 1 (v 1 + 1)
  else if 24 ≤ e then (if q.2.2.1 (e - 24) = 2 ∨ q.2.2.1 (e - 24) = 4 then vup v (10 + (e - 24)) (v 0) else vup v (4 + (e - 24)) (if q.2.2.1 (e - 24) = 5 then (v 0 + q.2.1 - v 1 % q.2.1) % q.2.1 else v 0))
  else if 16 ≤ e then vup (vup v 3 (v 3 ^^^ (v 3 &&& 2 ^ (e - 16)))) 2 (v 2 + cst q (e - 16) / 2)
  else if 8 ≤ e then vup (vup v 3 (v 3 ||| 2 ^ (e - 8))) 2 (v 2 - cst q (e - 8))
  else vup (vup v 0 (ext q v e)) 1 (v 1 + hrs q e)
def hist (q : Cs) (v : Nat → Nat) (lg : Nat → Nat) : Nat → Nat → Nat
  | 0 => v
  | n + 1 => stepv q (hist q v lg n) (lg n)
/-- a deed that the calls let through -/
def okd (q : Cs) (v : Nat → Nat) (e : Nat) : Prop := e = 6 ∨ e = 7 ∨ e < q.1 ∨ (24 ≤ e ∧ e < 24 + q.1) ∨ (16 ≤ e ∧ e < 16 + q.1) ∨ (8 ≤ e ∧ e < 8 + q.1 ∧ cst q (e - 8) ≤ v 2)
def okq (q : Cs) (v : Nat → Nat) : Prop := ((q.1 = 0 ∧ q.2.1 = 0) ∨ (1 ≤ q.1 ∧ q.1 ≤ 6 ∧ 2 ≤ q.2.1 ∧ q.2.1 ≤ 7)) ∧ (∀ i, i < q.1 → q.2.2.1 i < 6 ∧ q.2.2.2 i < 10 ∧ v (4 + i) < q.2.1 ∧ v (10 + i) < q.2.1) ∧ v 0 = 0 ∧ v 1 = 0 ∧ v 2 < 100 ∧ v 3 = 0
def okl (q : Cs) (v : Nat → Nat) (lg : Nat → Nat) (n : Nat) : Prop := n ≤ 40 ∧ (q.1 = 0 → n = 0) ∧ ∀ d, d < n → okd q (hist q v lg d) (lg d)
def ixD (D k : Nat) : Prop := k < 4 ∨ (4 ≤ k ∧ k < 4 + D) ∨ (10 ≤ k ∧ k < 10 + D)
/-- the class's country at c: now in state v, first in state v0, n deeds lg -/
def CS (I : I2) (c : Nat) (q : Cs) (v : Nat → Nat) : Prop := I c 8 = nI q.2.1 ∧ I c 9 = nI q.1 ∧ I c 11 = nI (v 2) ∧ I c 12 = nI (v 0) ∧ I c 13 = nI (v 1) ∧ I c 14 = nI (v 3) ∧ ∀ i, i < q.1 → I (c + 1) i = nI (q.2.2.1 i) ∧ I (c + 2) i = nI (q.2.2.2 i) ∧ I (c + 3) i = nI (v (4 + i)) ∧ I (c + 4) i = nI (v (10 + i))
def C0 (I : I2) (c : Nat) (q : Cs) (v0 : Nat → Nat) : Prop := I c 10 = nI (v0 2) ∧ ∀ i, i < q.1 → I (c + 5) i = nI (v0 (4 + i)) ∧ I (c + 6) i = nI (v0 (10 + i))
def CL (I : I2) (c : Nat) (lg : Nat → Nat) (n : Nat) : Prop := I c 15 = nI n ∧ ∀ d, d < n → I (c + 7) d = nI (lg d)
def CC (I : I2) (c : Nat) (q : Cs) (v0 lg : Nat → Nat) (n : Nat) : Prop := CS I c q (hist q v0 lg n) ∧ C0 I c q v0 ∧ CL I c lg n
/-- the reference's country -/
def MS (I : I2) (q : Cs) : Prop := I 81 4 = nI q.1 ∧ I 81 5 = nI q.2.1 ∧ ∀ i, i < q.1 → I 86 i = nI (q.2.2.1 i) ∧ I 87 i = nI (q.2.2.2 i)
def MV (I : I2) (a oa : Nat) (q : Cs) (v : Nat → Nat) : Prop := ∀ k, ixD q.1 k → I a (oa + k) = nI (v k)
def MH (I : I2) (b ob : Nat) (q : Cs) (v0 lg : Nat → Nat) (n : Nat) : Prop := ∀ d, d < n → ∀ k, ixD q.1 k → I b (ob + 16 * d + k) = nI (hist q v0 lg d k)
def Now (I : I2) (q : Cs) (v0 lg : Nat → Nat) (n : Nat) : Prop := okl q v0 lg n ∧ CC I 10 q v0 lg n ∧ MS I q ∧ MV I 88 0 q (hist q v0 lg n) ∧ MH I 89 0 q v0 lg n ∧ I 81 9 = nI n
def Kp (I : I2) (k : Nat) (q : Cs) (v0 : Nat → Nat) : Prop := (I (57 + 8 * k) 9 = nI 0 ∧ I 91 k = nI 0) ∨ (I 91 k = nI 1 ∧ 0 < q.1 ∧ ∃ lg n, okl q v0 lg n ∧ CC I (57 + 8 * k) q v0 lg n ∧ MV I 90 (657 * k) q (hist q v0 lg n) ∧ MH I 90 (657 * k + 16) q v0 lg n ∧ I 90 (657 * k + 656) = nI n)
def InvC (I : I2) : Prop := ∃ q v0, okq q v0 ∧ (∃ lg n, Now I q v0 lg n) ∧ ∀ k, k < 3 → Kp I k q v0
def Inv (I : I2) (G : G2) : Prop := InvR I ∧ InvT I ∧ InvF I ∧ InvA I G ∧ InvL I ∧ InvC I
theorem CC.ag {I I' : I2} {c : Nat} {q : Cs} {v0 lg : Nat → Nat} {n : Nat} (h : CC I c q v0 lg n) (a : ∀ k j, c ≤ k → k ≤ c + 7 → I' k j = I k j) : CC I' c q v0 lg n := by
  obtain ⟨⟨a1, a2, a3, a4, a5, a6, a7⟩, ⟨b1, b2⟩, c1, c2⟩ := h
  refine ⟨⟨?_, ?_, ?_, ?_, ?_, ?_, fun i hi => ⟨?_, ?_, ?_, ?_⟩⟩, ⟨?_, fun i hi => ⟨?_, ?_⟩⟩, ?_, fun d hd => ?_⟩
  · rw [a _ _ (by omega) (by omega), a1]
  · rw [a _ _ (by omega) (by omega), a2]
  · rw [a _ _ (by omega) (by omega), a3]
  · rw [a _ _ (by omega) (by omega), a4]
  · rw [a _ _ (by omega) (by omega), a5]
  · rw [a _ _ (by omega) (by omega), a6]
  · rw [a _ _ (by omega) (by omega), (a7 i hi).1]
  · rw [a _ _ (by omega) (by omega), (a7 i hi).2.1]
  · rw [a _ _ (by omega) (by omega), (a7 i hi).2.2.1]
  · rw [a _ _ (by omega) (by omega), (a7 i hi).2.2.2]
  · rw [a _ _ (by omega) (by omega), b1]
  · rw [a _ _ (by omega) (by omega), (b2 i hi).1]
  · rw [a _ _ (by omega) (by omega), (b2 i hi).2]
  · rw [a _ _ (by omega) (by omega), c1]
  · rw [a _ _ (by omega) (by omega), c2 d hd]
theorem Now.ag {I I' : I2} {q : Cs} {v0 lg : Nat → Nat} {n : Nat} (h : Now I q v0 lg n) (a : Ag PC I I') : Now I' q v0 lg n := by
  obtain ⟨h1, h2, ⟨m1, m2, m3⟩, h4, h5, h6⟩ := h
  refine ⟨h1, h2.ag (fun k j _ _ => a _ _ (by unfold PC; omega)), ⟨?_, ?_, fun i hi => ⟨?_, ?_⟩⟩, fun k hk => ?_, fun d hd k hk => ?_, ?_⟩
  · rw [a _ _ (by unfold PC; omega), m1]
  · rw [a _ _ (by unfold PC; omega), m2]
  · rw [a _ _ (by unfold PC; omega), (m3 i hi).1]
  · rw [a _ _ (by unfold PC; omega), (m3 i hi).2]
  · rw [a _ _ (by unfold PC; omega), h4 k hk]
  · rw [a _ _ (by unfold PC; omega), h5 d hd k hk]
  · rw [a _ _ (by unfold PC; omega), h6]
theorem Kp.ag {I I' : I2} {k : Nat} {q : Cs} {v0 : Nat → Nat} (hk : k < 3) (hq : q.1 ≤ 6) (h : Kp I k q v0) (a : ∀ k' j, (57 + 8 * k ≤ k' ∧ k' ≤ 64 + 8 * k) ∨ (k' = 91 ∧ j = k) ∨ (k' = 90 ∧ 657 * k ≤ j ∧ j < 657 * k + 657) → I' k' j = I k' j) : Kp I' k q v0 := by
  rcases h with ⟨h1, h2⟩ | ⟨h1, h0, lg, n, h2, h3, h4, h5, h6⟩
  · exact Or.inl ⟨by rw [a _ _ (by omega), h1], by rw [a _ _ (by omega), h2]⟩
  · have hn : n ≤ 40 := h2.1
    refine Or.inr ⟨by rw [a _ _ (by omega), h1], h0, lg, n, h2, h3.ag (fun k' j _ _ => a _ _ (by omega)), fun k' hk' => ?_, fun d hd k' hk' => ?_, by rw [a _ _ (by omega), h6]⟩
    · have e : k' < 16 := by unfold ixD at hk'; omega
      rw [a _ _ (by omega), h4 k' hk']
    · have e : k' < 16 := by unfold ixD at hk'; omega
      rw [a _ _ (by omega), h5 d hd k' hk']
theorem okq.le {q : Cs} {v : Nat → Nat} (h : okq q v) : q.1 ≤ 6 := by
  rcases h.1 with h | h <;> omega
theorem InvC.ag {I I' : I2} (h : InvC I) (a : Ag PC I I') : InvC I' := by
  obtain ⟨q, v0, h1, ⟨lg, n, h2⟩, h3⟩ := h
  exact ⟨q, v0, h1, ⟨lg, n, h2.ag a⟩, fun k hk => (h3 k hk).ag hk h1.le (fun k' j hh => a _ _ (by unfold PC; omega))⟩
/-- one call: class, then reference; the answers are the same, and all holds again -/
def Eqo (L : Nat) (f g : Sx → Option (Int32 × Sx)) (I : I2) (G : G2) : Prop := ∃ r I1 G1 I2 G2, f (mk I G L) = some (r, mk I1 G1 L) ∧ g (mk I1 G1 L) = some (r, mk I2 G2 L) ∧ Inv I2 G2 ∧ ∀ j, I2 1000 j = I 1000 j
/-- nothing is changed -/
theorem Eqo.same {L : Nat} {f g : Sx → Option (Int32 × Sx)} {I : I2} {G : G2} (h : Inv I G) (r : Int32) (h1 : f (mk I G L) = some (r, mk I G L)) (h2 : g (mk I G L) = some (r, mk I G L)) : Eqo L f g I G := ⟨r, I, G, I, G, h1, h2, h, fun _ => rfl⟩
/-- a finding -/
theorem Eqo.fnd {L : Nat} {f g : Sx → Option (Int32 × Sx)} {I : I2} {G : G2} (h : Inv I G) (x : Nat) (hx : x < 6) (h1 : f (mk I G L) = m15 0 (nI x) (mk I G L)) (h2 : ∀ I1, (∀ k j, 81 ≤ k → I1 k j = I k j) → g (mk I1 G L) = m151 81 (nI x) (mk I1 G L)) : Eqo L f g I G := by
  have e1 : ∀ j, w2 (w2 I 0 11 (nI x)) 36 x (I 36 x + 1) 1000 j = I 1000 j := fun j => by
    rw [w2_ne _ (by omega), w2_ne _ (by omega)]
  refine ⟨-3, _, G, _, G, h1.trans (p_find x hx I G L), (h2 _ (fun k j hk => by rw [w2_ne _ (by omega), w2_ne _ (by omega)])).trans (p_found x hx _ G L), ?_, ?_⟩
  · obtain ⟨hR, hT, hF, hA, hL, hC⟩ := h
    refine ⟨hR.ag ?_, hT.ag ?_, ?_, hA.ag ?_, hL.ag ?_, hC.ag ?_⟩
    · intro k j q
      unfold PR at q
      simp (disch := omega) only [w2_ne]
    · intro k j q
      unfold PT at q
      simp (disch := omega) only [w2_ne]
    · refine ⟨?_, fun f hf => ?_⟩
      · simp (disch := omega) only [w2_ne, w2_s]
      · by_cases e : f = x
        · subst e
          simp (disch := omega) only [w2_ne, w2_s]
          rw [hF.2 f hf]
        · simp (disch := omega) only [w2_ne, w2_s]
          exact hF.2 f hf
    · intro k j q
      unfold PA at q
      simp (disch := omega) only [w2_ne]
    · intro k j q
      unfold PL at q
      simp (disch := omega) only [w2_ne]
    · intro k j q
      unfold PC at q
      simp (disch := omega) only [w2_ne]
  · intro j
    simp (disch := omega) only [w2_ne]
