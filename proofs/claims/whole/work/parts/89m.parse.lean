/-! ===== a text is read: pure ===== -/
def bl (T : Nat → Int32) (n p : Nat) : Nat := fst (fun i => decide (¬ T i = nI 32)) (n - p) p
def fv (T : Nat → Int32) (p : Nat) : Nat := (T p - nI 48).toNatClampNeg
def okf (T : Nat → Int32) (n lo hi p : Nat) : Bool := decide (p < n ∧ ¬ (T p - nI 48) < nI lo ∧ (T p - nI 48) ≤ nI hi)
def byt (T : Nat → Int32) (n p : Nat) : Int32 := if p < n then T p else -nI 1000
def kd (x : Int32) : Nat := fst (fun k => decide (x = letL.getD k 0)) 6 0
theorem bl_b {T : Nat → Int32} {n p : Nat} (h : p ≤ n) : p ≤ bl T n p ∧ bl T n p ≤ n := by
  have := fst_le (f := fun i => decide (¬ T i = nI 32)) (d := n - p) (t := p)
  unfold bl
  omega
theorem okf_v {T : Nat → Int32} {n lo hi p : Nat} (hl : lo < 100) (hh : hi < 100) (h : okf T n lo hi p = true) : p < n ∧ T p - nI 48 = nI (fv T p) ∧ lo ≤ fv T p ∧ fv T p ≤ hi := by
  obtain ⟨h1, h2, h3⟩ := of_decide_eq_true h
  unfold fv
  rcases z_of (T p - nI 48) with ⟨j, hj, e⟩ | ⟨j, j0, jh, e⟩
  · rw [e] at h2 h3 ⊢
    rw [e_lt hj (by omega)] at h2
    rw [e_le hj (by omega)] at h3
    rw [e_clamp hj]
    exact ⟨h1, rfl, by omega, h3⟩
  · rw [e, e_nlt jh j0 (show lo < 2 ^ 31 by omega)] at h2
    exact absurd trivial h2
theorem kd_6 {x : Int32} : kd x ≤ 6 := (fst_le (f := fun k => decide (x = letL.getD k 0)) (d := 6) (t := 0)).2
/-- a door is read: well, and how far -/
def dR (T : Nat → Int32) (n P p : Nat) : Bool × Nat := if kd (byt T n p) = 6 then (false, p) else if okf T n 0 (P - 1) (p + 1) = true then (if okf T n 0 (P - 1) (p + 2) = true then (if okf T n 0 9 (p + 3) = true then (true, p + 4) else (false, p + 3)) else (false, p + 2)) else (false, p + 1)
def dF (T : Nat → Int32) (f : Nat → Nat) (k p : Nat) : Nat → Nat := fun j => if j = 4 * k then kd (T p) else if j = 4 * k + 1 then fv T (p + 1) else if j = 4 * k + 2 then fv T (p + 2) else if j = 4 * k + 3 then fv T (p + 3) else f j
def pd (T : Nat → Int32) (n P : Nat) : Nat → Nat → Nat → (Nat → Nat) → Bool × Nat × Nat × (Nat → Nat)
  | 0, p, k, f => (false, p, k, f)
  | m + 1, p, k, f => if p = n ∧ 0 < k then (true, p, k, f) else if k = 6 then (false, p, k, f) else if (dR T n P p).1 = true then pd T n P m (bl T n (p + 4)) (k + 1) (dF T f k p) else (false, (dR T n P p).2, k, f)
theorem dR_ok {T : Nat → Int32} {n P p : Nat} (h : (dR T n P p).1 = true) : p < n ∧ kd (T p) < 6 ∧ kd (byt T n p) = kd (T p) ∧ okf T n 0 (P - 1) (p + 1) = true ∧ okf T n 0 (P - 1) (p + 2) = true ∧ okf T n 0 9 (p + 3) = true ∧ (dR T n P p).2 = p + 4 ∧ p + 4 ≤ n := by
  unfold dR at h ⊢
  by_cases c1 : kd (byt T n p) = 6
  · rw [if_pos c1] at h; exact absurd h Bool.false_ne_true
  rw [if_neg c1] at h ⊢
  by_cases c2 : okf T n 0 (P - 1) (p + 1) = true
  rotate_left
  · rw [if_neg c2] at h; exact absurd h Bool.false_ne_true
  rw [if_pos c2] at h ⊢
  by_cases c3 : okf T n 0 (P - 1) (p + 2) = true
  rotate_left
  · rw [if_neg c3] at h; exact absurd h Bool.false_ne_true
  rw [if_pos c3] at h ⊢
  by_cases c4 : okf T n 0 9 (p + 3) = true
  rotate_left
  · rw [if_neg c4] at h; exact absurd h Bool.false_ne_true
  rw [if_pos c4]
  have h3 := (of_decide_eq_true c4).1
  have eb : byt T n p = T p := if_pos (by omega)
  rw [eb] at c1 ⊢
  have := kd_6 (x := T p)
  exact ⟨by omega, by omega, rfl, c2, c3, c4, rfl, by omega⟩
/-- what is read of a text: its data are those of a country -/
theorem pd_ok {T : Nat → Int32} {n P : Nat} (hP : 2 ≤ P) (hP7 : P ≤ 7) : ∀ m p k f, k ≤ 6 → (∀ i, i < k → f (4 * i) < 6 ∧ f (4 * i + 1) < P ∧ f (4 * i + 2) < P ∧ f (4 * i + 3) < 10) → (pd T n P m p k f).2.2.1 ≤ 6 ∧ ((pd T n P m p k f).1 = true → 0 < (pd T n P m p k f).2.2.1) ∧ ∀ i, i < (pd T n P m p k f).2.2.1 → (pd T n P m p k f).2.2.2 (4 * i) < 6 ∧ (pd T n P m p k f).2.2.2 (4 * i + 1) < P ∧ (pd T n P m p k f).2.2.2 (4 * i + 2) < P ∧ (pd T n P m p k f).2.2.2 (4 * i + 3) < 10
  | 0, p, k, f, hk, hf => ⟨hk, fun h => absurd h Bool.false_ne_true, hf⟩
  | m + 1, p, k, f, hk, hf => by
    unfold pd
    by_cases c1 : p = n ∧ 0 < k
    · rw [if_pos c1]; exact ⟨hk, fun _ => c1.2, hf⟩
    rw [if_neg c1]
    by_cases c2 : k = 6
    · rw [if_pos c2]; exact ⟨hk, fun h => absurd h Bool.false_ne_true, hf⟩
    rw [if_neg c2]
    by_cases c3 : (dR T n P p).1 = true
    rotate_left
    · rw [if_neg c3]; exact ⟨hk, fun h => absurd h Bool.false_ne_true, hf⟩
    rw [if_pos c3]
    obtain ⟨d1, d2, d3, d4, d5, d6, d7, d8⟩ := dR_ok c3
    have v1 := okf_v (by omega) (by omega) d4
    have v2 := okf_v (by omega) (by omega) d5
    have v3 := okf_v (by omega) (by omega) d6
    refine pd_ok hP hP7 m _ (k + 1) _ (by omega) (fun i hi => ?_)
    unfold dF
    by_cases e : i = k
    · subst e
      rw [if_pos rfl, if_neg (by omega), if_pos rfl, if_neg (by omega), if_neg (by omega), if_pos rfl, if_neg (by omega), if_neg (by omega), if_neg (by omega), if_pos rfl]
      omega
    · have := hf i (by omega)
      simp (disch := omega) only [if_neg]
      exact this
theorem pd_le {T : Nat → Int32} {n P : Nat} : ∀ m p k f, p ≤ n → (pd T n P m p k f).2.1 ≤ n
  | 0, p, k, f, h => h
  | m + 1, p, k, f, h => by
    unfold pd
    by_cases c1 : p = n ∧ 0 < k
    · rw [if_pos c1]; exact h
    rw [if_neg c1]
    by_cases c2 : k = 6
    · rw [if_pos c2]; exact h
    rw [if_neg c2]
    by_cases c3 : (dR T n P p).1 = true
    · rw [if_pos c3]
      obtain ⟨d1, d2, d3, d4, d5, d6, d7, d8⟩ := dR_ok c3
      exact pd_le m _ _ _ (bl_b d8).2
    · rw [if_neg c3]
      show (dR T n P p).2 ≤ n
      unfold dR
      by_cases x1 : kd (byt T n p) = 6
      · rw [if_pos x1]; exact h
      have hpn : p < n := by
        by_cases z : p < n
        · exact z
        · have : byt T n p = -nI 1000 := if_neg z
          rw [this] at x1
          exact absurd (by decide) x1
      rw [if_neg x1]
      by_cases x2 : okf T n 0 (P - 1) (p + 1) = true
      rotate_left
      · rw [if_neg x2]; show p + 1 ≤ n; omega
      have y2 := (of_decide_eq_true x2).1
      rw [if_pos x2]
      by_cases x3 : okf T n 0 (P - 1) (p + 2) = true
      rotate_left
      · rw [if_neg x3]; show p + 2 ≤ n; omega
      have y3 := (of_decide_eq_true x3).1
      rw [if_pos x3]
      by_cases x4 : okf T n 0 9 (p + 3) = true
      rotate_left
      · rw [if_neg x4]; show p + 3 ≤ n; omega
      have y4 := (of_decide_eq_true x4).1
      rw [if_pos x4]; show p + 4 ≤ n; omega
/-- the whole text -/
def hd (T : Nat → Int32) (n : Nat) : Bool × Nat := if byt T n (bl T n 0) = nI 110 then (if okf T n 2 7 (bl T n 0 + 1) = true then (if okf T n 0 9 (bl T n 0 + 2) = true then (if okf T n 0 9 (bl T n 0 + 3) = true then (true, bl T n 0 + 4) else (false, bl T n 0 + 3)) else (false, bl T n 0 + 2)) else (false, bl T n 0 + 1)) else (false, bl T n 0)
def hdP (T : Nat → Int32) (n : Nat) : Nat := fv T (bl T n 0 + 1)
def hdM (T : Nat → Int32) (n : Nat) : Nat := 10 * fv T (bl T n 0 + 2) + fv T (bl T n 0 + 3)
def ps (T : Nat → Int32) (n : Nat) : Bool × Nat × Nat × (Nat → Nat) := if (hd T n).1 = true then pd T n (hdP T n) 8 (bl T n (bl T n 0 + 4)) 0 (fun _ => 0) else (false, (hd T n).2, 0, fun _ => 0)
theorem hd_ok {T : Nat → Int32} {n : Nat} (h : (hd T n).1 = true) : byt T n (bl T n 0) = nI 110 ∧ okf T n 2 7 (bl T n 0 + 1) = true ∧ okf T n 0 9 (bl T n 0 + 2) = true ∧ okf T n 0 9 (bl T n 0 + 3) = true ∧ bl T n 0 + 4 ≤ n ∧ 2 ≤ hdP T n ∧ hdP T n ≤ 7 ∧ hdM T n < 100 := by
  unfold hd at h
  by_cases c1 : byt T n (bl T n 0) = nI 110
  rotate_left
  · rw [if_neg c1] at h; exact absurd h Bool.false_ne_true
  rw [if_pos c1] at h
  by_cases c2 : okf T n 2 7 (bl T n 0 + 1) = true
  rotate_left
  · rw [if_neg c2] at h; exact absurd h Bool.false_ne_true
  rw [if_pos c2] at h
  by_cases c3 : okf T n 0 9 (bl T n 0 + 2) = true
  rotate_left
  · rw [if_neg c3] at h; exact absurd h Bool.false_ne_true
  rw [if_pos c3] at h
  by_cases c4 : okf T n 0 9 (bl T n 0 + 3) = true
  rotate_left
  · rw [if_neg c4] at h; exact absurd h Bool.false_ne_true
  have v1 := okf_v (by omega) (by omega) c2
  have v2 := okf_v (by omega) (by omega) c3
  have v3 := okf_v (by omega) (by omega) c4
  unfold hdP hdM
  exact ⟨c1, c2, c3, c4, by omega, by omega, by omega, by omega⟩
def psV (T : Nat → Int32) (n : Nat) : Int32 := if (ps T n).1 = true then -nI 9 else nI (ps T n).2.1
/-! ===== a text is read: the class ===== -/
theorem w2_id {I : I2} {k j : Nat} {x : Int32} (h : I k j = x) : w2 I k j x = I := by
  funext k' j'
  by_cases c : k' = k ∧ j' = j
  · obtain ⟨rfl, rfl⟩ := c; rw [w2_s, h]
  · rw [w2_ne _ c]
theorem w2_w2 {I : I2} {k j : Nat} {x y : Int32} : w2 (w2 I k j x) k j y = w2 I k j y := by
  funext k' j'
  by_cases c : k' = k ∧ j' = j
  · obtain ⟨rfl, rfl⟩ := c; rw [w2_s, w2_s]
  · rw [w2_ne _ c, w2_ne _ c, w2_ne _ c]
section PARC
variable {T : Nat → Int32} {n t : Nat} (G : G2) (L : Nat)
theorem g_34 {J : I2} {p : Nat} (ht : t < 4) (hn : n ≤ 60) (hs : J (49 + 2 * t) 1 = nI n) (hT : ∀ i, i < n → J (50 + 2 * t) i = T i) (hp : p ≤ n) (h0 : J 27 0 = nI p) : ∀ (ω : Type) (f : Sx → Option ω), (m34 27 (49 + 2 * t) (mk J G L)).bind f = f (mk (w2 J 27 0 (nI (bl T n p))) G L) := by
  have key : ∀ d p g (K : I2), n - p = d → p ≤ n → d < g → K 27 0 = nI p → K (49 + 2 * t) 1 = nI n → (∀ i, i < n → K (50 + 2 * t) i = T i) → l34_0 g 27 (49 + 2 * t) (mk K G L) = some (mk (w2 K 27 0 (nI (fst (fun i => decide (¬ T i = nI 32)) d p))) G L) := by
    intro d
    induction d with
    | zero =>
      intro p g K h1 h2 h3 h0 hs hT
      obtain ⟨g, rfl⟩ : ∃ g', g = g' + 1 := ⟨g - 1, by omega⟩
      obtain rfl : p = n := by omega
      show b34_0 _ _ _ _ = some (mk (w2 K 27 0 (nI p)) G L)
      rw [w2_id h0, f_b34_0]
      simp (maxSteps := 20000) (disch := omega) only [mk_oc, mk_aw, mk_sI, mk_sL, gi_mk, gg_mk, ↓lt_I, ↓lt_L, ↓bn_some, ↓bq_some, ↓bq_none, ↓bn_none, ↓bq_ite, ↓bn_ite, ↓bq_bind, ↓bn_bind, ↓bq_bq, ↓bn_bq, ↓bq_lt, ↓bn_lt, ↓reduceIte, ↓rb_0_0, ↓rb_0_1, ↓rb_0_2, ↓rb_0_3, ↓rb_0_4, ↓rb_0_5, ↓rb_0_6, ↓rb_0_7, ↓rb_0_8, ↓rb_0_9, ↓rb_0_10, ↓rb_1_0, ↓rb_1_1, ↓rb_1_2, ↓rb_1_3, ↓rb_1_4, ↓rb_1_5, ↓rb_2_0, ↓rb_2_1, ↓rb_2_2, ↓rb_2_3, ↓rb_3_0, ↓rb_3_1, ↓rb_3_2, ↓rb_3_3, ↓rb_3_4, ↓rb_3_5, ↓rb_10_0, ↓rb_10_1, ↓rb_10_2, ↓rb_10_3, ↓rb_10_4, ↓rb_10_5, ↓rb_10_6, ↓rb_10_7, ↓rb_18_0, ↓rb_18_1, ↓rb_18_2, ↓rb_18_3, ↓rb_18_4, ↓rb_18_5, ↓rb_18_6, ↓rb_18_7, ↓rb_26_0, ↓rb_26_1, ↓rb_26_2, ↓rb_28_0, ↓rb_28_1, ↓rb_31_0, ↓rb_31_1, ↓rb_31_2, ↓rb_37_0, ↓rb_39_0, ↓rb_41_0, ↓rb_43_0, ↓rb_45_0, ↓rb_47_0, ↓rb_49_0, ↓rb_51_0, ↓rb_53_0, ↓rb_55_0, ↓rb_57_0, ↓rb_57_1, ↓rb_57_2, ↓rb_57_3, ↓rb_57_4, ↓rb_57_5, ↓rb_57_6, ↓rb_57_7, ↓rb_65_0, ↓rb_65_1, ↓rb_65_2, ↓rb_65_3, ↓rb_65_4, ↓rb_65_5, ↓rb_65_6, ↓rb_65_7, ↓rb_73_0, ↓rb_73_1, ↓rb_73_2, ↓rb_73_3, ↓rb_73_4, ↓rb_73_5, ↓rb_73_6, ↓rb_73_7, ↓rb_81_0, ↓rb_81_1, ↓rb_81_2, ↓rb_81_3, ↓rb_81_6, ↓rb_81_7, ↓rb_81_8, ↓rb_81_10, ↓rb_81_11, ↓rb_81_12, ↓rb_81_17, ↓rb_81_22, ↓rb_81_24, ↓rb_81_25, ↓rb_81_26, ↓rb_81_27, oc_0x, aw_1, aw_2, aw_3, oc_4_6, oc_4_5, oc_4_0, oc_4_1, oc_4_9, oc_4_2, oc_5_6, oc_5_5, oc_5_0, oc_5_1, oc_5_9, oc_5_2, oc_6_6, oc_6_5, oc_6_0, oc_6_1, oc_6_9, oc_6_2, oc_7_6, oc_7_5, oc_7_0, oc_7_1, oc_7_9, oc_7_2, oc_8_6, oc_8_5, oc_8_0, oc_8_1, oc_8_9, oc_8_2, oc_9_6, oc_9_5, oc_9_0, oc_9_1, oc_9_9, oc_9_2, oc_10x, al_11, aw_11, al_12, aw_12, al_13, aw_13, al_14, aw_14, al_15, aw_15, al_16, aw_16, al_17, aw_17, oc_18x, al_19, aw_19, al_20, aw_20, al_21, aw_21, al_22, aw_22, al_23, aw_23, al_24, aw_24, al_25, aw_25, aw_26, oc_27x, oc_28x, al_29, aw_29, al_30, aw_30, oc_31x, al_32, aw_32, al_33, aw_33, al_34, aw_34, al_35, aw_35, al_36, aw_36, oc_57x, al_58, aw_58, al_59, aw_59, al_60, aw_60, al_61, aw_61, al_62, aw_62, al_63, aw_63, al_64, aw_64, oc_65x, al_66, aw_66, al_67, aw_67, al_68, aw_68, al_69, aw_69, al_70, aw_70, al_71, aw_71, al_72, aw_72, oc_73x, al_74, aw_74, al_75, aw_75, al_76, aw_76, al_77, aw_77, al_78, aw_78, al_79, aw_79, al_80, aw_80, oc_81x, al_82, aw_82, al_83, aw_83, al_84, aw_84, al_85, aw_85, al_86, aw_86, al_87, aw_87, al_88, aw_88, al_89, aw_89, al_90, aw_90, aw_91, al_92, aw_92, al_93, aw_93, al_94, aw_94, al_95, aw_95, al_96, aw_96, al_97, aw_97, li_0, li_1, li_2, li_3, li_4, li_5, li_6, li_7, li_8, li_9, li_10, li_11, li_12, li_15, li_16, li_18, li_19, li_20, li_24, li_30, li_31, li_32, li_40, li_48, li_49, li_55, li_56, li_57, li_60, li_63, li_97, li_98, li_99, li_100, li_107, li_110, li_115, li_117, li_600, li_640, li_656, li_657, li_1000, li_2147483646, li_1000000, oc_r, oc_t, oc_k, ↓rb_r, ↓rb_rc, aw_r, al_r, ↓rb_t, ↓rb_tc, aw_t, al_t, ↓rb_k, w2_s, w2_j, w2_k, g2_s, g2_j, g2_k, al_1001, al_1000, e_lt, e_le, e_eq, e_nlt, e_nle, e_ltn, e_len, e_neq, e_eqn, e_nn, e_nlen, e_nltn, nI_add, pk_mul, e_sub, e_subn, e_addn, e_clamp, e_inb, e_inbn, e_dec, lt_ap, ll_0, ll_1, e_llt, e_leq, c_lt0, c_gt0, c_le0, nI_l, lN_add, Bool.false_eq_true, not_true_eq_false, not_false_eq_true, d_lt, d_nlt, d_le, d_nle, d_eq, d_neq, h0, hs]
    | succ d ih =>
      intro p g K h1 h2 h3 h0 hs hT
      obtain ⟨g, rfl⟩ : ∃ g', g = g' + 1 := ⟨g - 1, by omega⟩
      have hTp := hT p (by omega)
      have ef : fst (fun i => decide (¬ T i = nI 32)) (d + 1) p = if decide (¬ T p = nI 32) = true then p else fst (fun i => decide (¬ T i = nI 32)) d (p + 1) := rfl
      show b34_0 _ _ _ _ = _
      rw [f_b34_0, ef]
      by_cases c : T p = nI 32
      · have hih := ih (p + 1) g (w2 K 27 0 (nI (p + 1))) (by omega) (by omega) (by omega) (by rw [w2_s]) (by rw [w2_ne _ (by omega), hs]) (fun i hi => by rw [w2_ne _ (by omega), hT i hi])
        rw [w2_w2] at hih
        rw [decide_eq_false (fun z => z c), if_neg Bool.false_ne_true, ← hih]
        simp (maxSteps := 20000) (disch := omega) only [mk_oc, mk_aw, mk_sI, mk_sL, gi_mk, gg_mk, ↓lt_I, ↓lt_L, ↓bn_some, ↓bq_some, ↓bq_none, ↓bn_none, ↓bq_ite, ↓bn_ite, ↓bq_bind, ↓bn_bind, ↓bq_bq, ↓bn_bq, ↓bq_lt, ↓bn_lt, ↓reduceIte, ↓rb_0_0, ↓rb_0_1, ↓rb_0_2, ↓rb_0_3, ↓rb_0_4, ↓rb_0_5, ↓rb_0_6, ↓rb_0_7, ↓rb_0_8, ↓rb_0_9, ↓rb_0_10, ↓rb_1_0, ↓rb_1_1, ↓rb_1_2, ↓rb_1_3, ↓rb_1_4, ↓rb_1_5, ↓rb_2_0, ↓rb_2_1, ↓rb_2_2, ↓rb_2_3, ↓rb_3_0, ↓rb_3_1, ↓rb_3_2, ↓rb_3_3, ↓rb_3_4, ↓rb_3_5, ↓rb_10_0, ↓rb_10_1, ↓rb_10_2, ↓rb_10_3, ↓rb_10_4, ↓rb_10_5, ↓rb_10_6, ↓rb_10_7, ↓rb_18_0, ↓rb_18_1, ↓rb_18_2, ↓rb_18_3, ↓rb_18_4, ↓rb_18_5, ↓rb_18_6, ↓rb_18_7, ↓rb_26_0, ↓rb_26_1, ↓rb_26_2, ↓rb_28_0, ↓rb_28_1, ↓rb_31_0, ↓rb_31_1, ↓rb_31_2, ↓rb_37_0, ↓rb_39_0, ↓rb_41_0, ↓rb_43_0, ↓rb_45_0, ↓rb_47_0, ↓rb_49_0, ↓rb_51_0, ↓rb_53_0, ↓rb_55_0, ↓rb_57_0, ↓rb_57_1, ↓rb_57_2, ↓rb_57_3, ↓rb_57_4, ↓rb_57_5, ↓rb_57_6, ↓rb_57_7, ↓rb_65_0, ↓rb_65_1, ↓rb_65_2, ↓rb_65_3, ↓rb_65_4, ↓rb_65_5, ↓rb_65_6, ↓rb_65_7, ↓rb_73_0, ↓rb_73_1, ↓rb_73_2, ↓rb_73_3, ↓rb_73_4, ↓rb_73_5, ↓rb_73_6, ↓rb_73_7, ↓rb_81_0, ↓rb_81_1, ↓rb_81_2, ↓rb_81_3, ↓rb_81_6, ↓rb_81_7, ↓rb_81_8, ↓rb_81_10, ↓rb_81_11, ↓rb_81_12, ↓rb_81_17, ↓rb_81_22, ↓rb_81_24, ↓rb_81_25, ↓rb_81_26, ↓rb_81_27, oc_0x, aw_1, aw_2, aw_3, oc_4_6, oc_4_5, oc_4_0, oc_4_1, oc_4_9, oc_4_2, oc_5_6, oc_5_5, oc_5_0, oc_5_1, oc_5_9, oc_5_2, oc_6_6, oc_6_5, oc_6_0, oc_6_1, oc_6_9, oc_6_2, oc_7_6, oc_7_5, oc_7_0, oc_7_1, oc_7_9, oc_7_2, oc_8_6, oc_8_5, oc_8_0, oc_8_1, oc_8_9, oc_8_2, oc_9_6, oc_9_5, oc_9_0, oc_9_1, oc_9_9, oc_9_2, oc_10x, al_11, aw_11, al_12, aw_12, al_13, aw_13, al_14, aw_14, al_15, aw_15, al_16, aw_16, al_17, aw_17, oc_18x, al_19, aw_19, al_20, aw_20, al_21, aw_21, al_22, aw_22, al_23, aw_23, al_24, aw_24, al_25, aw_25, aw_26, oc_27x, oc_28x, al_29, aw_29, al_30, aw_30, oc_31x, al_32, aw_32, al_33, aw_33, al_34, aw_34, al_35, aw_35, al_36, aw_36, oc_57x, al_58, aw_58, al_59, aw_59, al_60, aw_60, al_61, aw_61, al_62, aw_62, al_63, aw_63, al_64, aw_64, oc_65x, al_66, aw_66, al_67, aw_67, al_68, aw_68, al_69, aw_69, al_70, aw_70, al_71, aw_71, al_72, aw_72, oc_73x, al_74, aw_74, al_75, aw_75, al_76, aw_76, al_77, aw_77, al_78, aw_78, al_79, aw_79, al_80, aw_80, oc_81x, al_82, aw_82, al_83, aw_83, al_84, aw_84, al_85, aw_85, al_86, aw_86, al_87, aw_87, al_88, aw_88, al_89, aw_89, al_90, aw_90, aw_91, al_92, aw_92, al_93, aw_93, al_94, aw_94, al_95, aw_95, al_96, aw_96, al_97, aw_97, li_0, li_1, li_2, li_3, li_4, li_5, li_6, li_7, li_8, li_9, li_10, li_11, li_12, li_15, li_16, li_18, li_19, li_20, li_24, li_30, li_31, li_32, li_40, li_48, li_49, li_55, li_56, li_57, li_60, li_63, li_97, li_98, li_99, li_100, li_107, li_110, li_115, li_117, li_600, li_640, li_656, li_657, li_1000, li_2147483646, li_1000000, oc_r, oc_t, oc_k, ↓rb_r, ↓rb_rc, aw_r, al_r, ↓rb_t, ↓rb_tc, aw_t, al_t, ↓rb_k, w2_s, w2_j, w2_k, g2_s, g2_j, g2_k, al_1001, al_1000, e_lt, e_le, e_eq, e_nlt, e_nle, e_ltn, e_len, e_neq, e_eqn, e_nn, e_nlen, e_nltn, nI_add, pk_mul, e_sub, e_subn, e_addn, e_clamp, e_inb, e_inbn, e_dec, lt_ap, ll_0, ll_1, e_llt, e_leq, c_lt0, c_gt0, c_le0, nI_l, lN_add, Bool.false_eq_true, not_true_eq_false, not_false_eq_true, d_lt, d_nlt, d_le, d_nle, d_eq, d_neq, h0, hs, hTp, c]
      · rw [decide_eq_true c, if_pos rfl, w2_id h0]
        simp (maxSteps := 20000) (disch := omega) only [mk_oc, mk_aw, mk_sI, mk_sL, gi_mk, gg_mk, ↓lt_I, ↓lt_L, ↓bn_some, ↓bq_some, ↓bq_none, ↓bn_none, ↓bq_ite, ↓bn_ite, ↓bq_bind, ↓bn_bind, ↓bq_bq, ↓bn_bq, ↓bq_lt, ↓bn_lt, ↓reduceIte, ↓rb_0_0, ↓rb_0_1, ↓rb_0_2, ↓rb_0_3, ↓rb_0_4, ↓rb_0_5, ↓rb_0_6, ↓rb_0_7, ↓rb_0_8, ↓rb_0_9, ↓rb_0_10, ↓rb_1_0, ↓rb_1_1, ↓rb_1_2, ↓rb_1_3, ↓rb_1_4, ↓rb_1_5, ↓rb_2_0, ↓rb_2_1, ↓rb_2_2, ↓rb_2_3, ↓rb_3_0, ↓rb_3_1, ↓rb_3_2, ↓rb_3_3, ↓rb_3_4, ↓rb_3_5, ↓rb_10_0, ↓rb_10_1, ↓rb_10_2, ↓rb_10_3, ↓rb_10_4, ↓rb_10_5, ↓rb_10_6, ↓rb_10_7, ↓rb_18_0, ↓rb_18_1, ↓rb_18_2, ↓rb_18_3, ↓rb_18_4, ↓rb_18_5, ↓rb_18_6, ↓rb_18_7, ↓rb_26_0, ↓rb_26_1, ↓rb_26_2, ↓rb_28_0, ↓rb_28_1, ↓rb_31_0, ↓rb_31_1, ↓rb_31_2, ↓rb_37_0, ↓rb_39_0, ↓rb_41_0, ↓rb_43_0, ↓rb_45_0, ↓rb_47_0, ↓rb_49_0, ↓rb_51_0, ↓rb_53_0, ↓rb_55_0, ↓rb_57_0, ↓rb_57_1, ↓rb_57_2, ↓rb_57_3, ↓rb_57_4, ↓rb_57_5, ↓rb_57_6, ↓rb_57_7, ↓rb_65_0, ↓rb_65_1, ↓rb_65_2, ↓rb_65_3, ↓rb_65_4, ↓rb_65_5, ↓rb_65_6, ↓rb_65_7, ↓rb_73_0, ↓rb_73_1, ↓rb_73_2, ↓rb_73_3, ↓rb_73_4, ↓rb_73_5, ↓rb_73_6, ↓rb_73_7, ↓rb_81_0, ↓rb_81_1, ↓rb_81_2, ↓rb_81_3, ↓rb_81_6, ↓rb_81_7, ↓rb_81_8, ↓rb_81_10, ↓rb_81_11, ↓rb_81_12, ↓rb_81_17, ↓rb_81_22, ↓rb_81_24, ↓rb_81_25, ↓rb_81_26, ↓rb_81_27, oc_0x, aw_1, aw_2, aw_3, oc_4_6, oc_4_5, oc_4_0, oc_4_1, oc_4_9, oc_4_2, oc_5_6, oc_5_5, oc_5_0, oc_5_1, oc_5_9, oc_5_2, oc_6_6, oc_6_5, oc_6_0, oc_6_1, oc_6_9, oc_6_2, oc_7_6, oc_7_5, oc_7_0, oc_7_1, oc_7_9, oc_7_2, oc_8_6, oc_8_5, oc_8_0, oc_8_1, oc_8_9, oc_8_2, oc_9_6, oc_9_5, oc_9_0, oc_9_1, oc_9_9, oc_9_2, oc_10x, al_11, aw_11, al_12, aw_12, al_13, aw_13, al_14, aw_14, al_15, aw_15, al_16, aw_16, al_17, aw_17, oc_18x, al_19, aw_19, al_20, aw_20, al_21, aw_21, al_22, aw_22, al_23, aw_23, al_24, aw_24, al_25, aw_25, aw_26, oc_27x, oc_28x, al_29, aw_29, al_30, aw_30, oc_31x, al_32, aw_32, al_33, aw_33, al_34, aw_34, al_35, aw_35, al_36, aw_36, oc_57x, al_58, aw_58, al_59, aw_59, al_60, aw_60, al_61, aw_61, al_62, aw_62, al_63, aw_63, al_64, aw_64, oc_65x, al_66, aw_66, al_67, aw_67, al_68, aw_68, al_69, aw_69, al_70, aw_70, al_71, aw_71, al_72, aw_72, oc_73x, al_74, aw_74, al_75, aw_75, al_76, aw_76, al_77, aw_77, al_78, aw_78, al_79, aw_79, al_80, aw_80, oc_81x, al_82, aw_82, al_83, aw_83, al_84, aw_84, al_85, aw_85, al_86, aw_86, al_87, aw_87, al_88, aw_88, al_89, aw_89, al_90, aw_90, aw_91, al_92, aw_92, al_93, aw_93, al_94, aw_94, al_95, aw_95, al_96, aw_96, al_97, aw_97, li_0, li_1, li_2, li_3, li_4, li_5, li_6, li_7, li_8, li_9, li_10, li_11, li_12, li_15, li_16, li_18, li_19, li_20, li_24, li_30, li_31, li_32, li_40, li_48, li_49, li_55, li_56, li_57, li_60, li_63, li_97, li_98, li_99, li_100, li_107, li_110, li_115, li_117, li_600, li_640, li_656, li_657, li_1000, li_2147483646, li_1000000, oc_r, oc_t, oc_k, ↓rb_r, ↓rb_rc, aw_r, al_r, ↓rb_t, ↓rb_tc, aw_t, al_t, ↓rb_k, w2_s, w2_j, w2_k, g2_s, g2_j, g2_k, al_1001, al_1000, e_lt, e_le, e_eq, e_nlt, e_nle, e_ltn, e_len, e_neq, e_eqn, e_nn, e_nlen, e_nltn, nI_add, pk_mul, e_sub, e_subn, e_addn, e_clamp, e_inb, e_inbn, e_dec, lt_ap, ll_0, ll_1, e_llt, e_leq, c_lt0, c_gt0, c_le0, nI_l, lN_add, Bool.false_eq_true, not_true_eq_false, not_false_eq_true, d_lt, d_nlt, d_le, d_nle, d_eq, d_neq, h0, hs, hTp, c]
  intro ω f
  rw [show m34 27 (49 + 2 * t) (mk J G L) = _ from key (n - p) p 1000 J rfl hp (by omega) h0 hs hT]
  rfl
theorem q_36 {J : I2} {p lo hi : Nat} (ht : t < 4) (hn : n ≤ 60) (hs : J (49 + 2 * t) 1 = nI n) (hT : ∀ i, i < n → J (50 + 2 * t) i = T i) (hp : p ≤ n) (h0 : J 27 0 = nI p) (hlo : lo < 100) (hhi : hi < 100) : ∀ (ω : Type) (f : Int32 → Sx → Option ω), bq (m36 27 (49 + 2 * t) (nI lo) (nI hi) (mk J G L)) f = if okf T n lo hi p = true then f (nI (fv T p)) (mk (w2 J 27 0 (nI (p + 1))) G L) else f (-nI 9) (mk J G L) := by
  intro ω f
  rw [g_m36]
  by_cases c0 : p < n
  rotate_left
  · have e : okf T n lo hi p = false := decide_eq_false (fun z => c0 z.1)
    rw [e, if_neg Bool.false_ne_true]
    simp (maxSteps := 20000) (disch := omega) only [mk_oc, mk_aw, mk_sI, mk_sL, gi_mk, gg_mk, ↓lt_I, ↓lt_L, ↓bn_some, ↓bq_some, ↓bq_none, ↓bn_none, ↓bq_ite, ↓bn_ite, ↓bq_bind, ↓bn_bind, ↓bq_bq, ↓bn_bq, ↓bq_lt, ↓bn_lt, ↓reduceIte, ↓rb_0_0, ↓rb_0_1, ↓rb_0_2, ↓rb_0_3, ↓rb_0_4, ↓rb_0_5, ↓rb_0_6, ↓rb_0_7, ↓rb_0_8, ↓rb_0_9, ↓rb_0_10, ↓rb_1_0, ↓rb_1_1, ↓rb_1_2, ↓rb_1_3, ↓rb_1_4, ↓rb_1_5, ↓rb_2_0, ↓rb_2_1, ↓rb_2_2, ↓rb_2_3, ↓rb_3_0, ↓rb_3_1, ↓rb_3_2, ↓rb_3_3, ↓rb_3_4, ↓rb_3_5, ↓rb_10_0, ↓rb_10_1, ↓rb_10_2, ↓rb_10_3, ↓rb_10_4, ↓rb_10_5, ↓rb_10_6, ↓rb_10_7, ↓rb_18_0, ↓rb_18_1, ↓rb_18_2, ↓rb_18_3, ↓rb_18_4, ↓rb_18_5, ↓rb_18_6, ↓rb_18_7, ↓rb_26_0, ↓rb_26_1, ↓rb_26_2, ↓rb_28_0, ↓rb_28_1, ↓rb_31_0, ↓rb_31_1, ↓rb_31_2, ↓rb_37_0, ↓rb_39_0, ↓rb_41_0, ↓rb_43_0, ↓rb_45_0, ↓rb_47_0, ↓rb_49_0, ↓rb_51_0, ↓rb_53_0, ↓rb_55_0, ↓rb_57_0, ↓rb_57_1, ↓rb_57_2, ↓rb_57_3, ↓rb_57_4, ↓rb_57_5, ↓rb_57_6, ↓rb_57_7, ↓rb_65_0, ↓rb_65_1, ↓rb_65_2, ↓rb_65_3, ↓rb_65_4, ↓rb_65_5, ↓rb_65_6, ↓rb_65_7, ↓rb_73_0, ↓rb_73_1, ↓rb_73_2, ↓rb_73_3, ↓rb_73_4, ↓rb_73_5, ↓rb_73_6, ↓rb_73_7, ↓rb_81_0, ↓rb_81_1, ↓rb_81_2, ↓rb_81_3, ↓rb_81_6, ↓rb_81_7, ↓rb_81_8, ↓rb_81_10, ↓rb_81_11, ↓rb_81_12, ↓rb_81_17, ↓rb_81_22, ↓rb_81_24, ↓rb_81_25, ↓rb_81_26, ↓rb_81_27, oc_0x, aw_1, aw_2, aw_3, oc_4_6, oc_4_5, oc_4_0, oc_4_1, oc_4_9, oc_4_2, oc_5_6, oc_5_5, oc_5_0, oc_5_1, oc_5_9, oc_5_2, oc_6_6, oc_6_5, oc_6_0, oc_6_1, oc_6_9, oc_6_2, oc_7_6, oc_7_5, oc_7_0, oc_7_1, oc_7_9, oc_7_2, oc_8_6, oc_8_5, oc_8_0, oc_8_1, oc_8_9, oc_8_2, oc_9_6, oc_9_5, oc_9_0, oc_9_1, oc_9_9, oc_9_2, oc_10x, al_11, aw_11, al_12, aw_12, al_13, aw_13, al_14, aw_14, al_15, aw_15, al_16, aw_16, al_17, aw_17, oc_18x, al_19, aw_19, al_20, aw_20, al_21, aw_21, al_22, aw_22, al_23, aw_23, al_24, aw_24, al_25, aw_25, aw_26, oc_27x, oc_28x, al_29, aw_29, al_30, aw_30, oc_31x, al_32, aw_32, al_33, aw_33, al_34, aw_34, al_35, aw_35, al_36, aw_36, oc_57x, al_58, aw_58, al_59, aw_59, al_60, aw_60, al_61, aw_61, al_62, aw_62, al_63, aw_63, al_64, aw_64, oc_65x, al_66, aw_66, al_67, aw_67, al_68, aw_68, al_69, aw_69, al_70, aw_70, al_71, aw_71, al_72, aw_72, oc_73x, al_74, aw_74, al_75, aw_75, al_76, aw_76, al_77, aw_77, al_78, aw_78, al_79, aw_79, al_80, aw_80, oc_81x, al_82, aw_82, al_83, aw_83, al_84, aw_84, al_85, aw_85, al_86, aw_86, al_87, aw_87, al_88, aw_88, al_89, aw_89, al_90, aw_90, aw_91, al_92, aw_92, al_93, aw_93, al_94, aw_94, al_95, aw_95, al_96, aw_96, al_97, aw_97, li_0, li_1, li_2, li_3, li_4, li_5, li_6, li_7, li_8, li_9, li_10, li_11, li_12, li_15, li_16, li_18, li_19, li_20, li_24, li_30, li_31, li_32, li_40, li_48, li_49, li_55, li_56, li_57, li_60, li_63, li_97, li_98, li_99, li_100, li_107, li_110, li_115, li_117, li_600, li_640, li_656, li_657, li_1000, li_2147483646, li_1000000, oc_r, oc_t, oc_k, ↓rb_r, ↓rb_rc, aw_r, al_r, ↓rb_t, ↓rb_tc, aw_t, al_t, ↓rb_k, w2_s, w2_j, w2_k, g2_s, g2_j, g2_k, al_1001, al_1000, e_lt, e_le, e_eq, e_nlt, e_nle, e_ltn, e_len, e_neq, e_eqn, e_nn, e_nlen, e_nltn, nI_add, pk_mul, e_sub, e_subn, e_addn, e_clamp, e_inb, e_inbn, e_dec, lt_ap, ll_0, ll_1, e_llt, e_leq, c_lt0, c_gt0, c_le0, nI_l, lN_add, Bool.false_eq_true, not_true_eq_false, not_false_eq_true, d_lt, d_nlt, d_le, d_nle, d_eq, d_neq, h0, hs]
  have hTp := hT p c0
  by_cases c1 : T p - nI 48 < nI lo
  · have e : okf T n lo hi p = false := decide_eq_false (fun z => z.2.1 c1)
    rw [e, if_neg Bool.false_ne_true]
    simp (maxSteps := 20000) (disch := omega) only [mk_oc, mk_aw, mk_sI, mk_sL, gi_mk, gg_mk, ↓lt_I, ↓lt_L, ↓bn_some, ↓bq_some, ↓bq_none, ↓bn_none, ↓bq_ite, ↓bn_ite, ↓bq_bind, ↓bn_bind, ↓bq_bq, ↓bn_bq, ↓bq_lt, ↓bn_lt, ↓reduceIte, ↓rb_0_0, ↓rb_0_1, ↓rb_0_2, ↓rb_0_3, ↓rb_0_4, ↓rb_0_5, ↓rb_0_6, ↓rb_0_7, ↓rb_0_8, ↓rb_0_9, ↓rb_0_10, ↓rb_1_0, ↓rb_1_1, ↓rb_1_2, ↓rb_1_3, ↓rb_1_4, ↓rb_1_5, ↓rb_2_0, ↓rb_2_1, ↓rb_2_2, ↓rb_2_3, ↓rb_3_0, ↓rb_3_1, ↓rb_3_2, ↓rb_3_3, ↓rb_3_4, ↓rb_3_5, ↓rb_10_0, ↓rb_10_1, ↓rb_10_2, ↓rb_10_3, ↓rb_10_4, ↓rb_10_5, ↓rb_10_6, ↓rb_10_7, ↓rb_18_0, ↓rb_18_1, ↓rb_18_2, ↓rb_18_3, ↓rb_18_4, ↓rb_18_5, ↓rb_18_6, ↓rb_18_7, ↓rb_26_0, ↓rb_26_1, ↓rb_26_2, ↓rb_28_0, ↓rb_28_1, ↓rb_31_0, ↓rb_31_1, ↓rb_31_2, ↓rb_37_0, ↓rb_39_0, ↓rb_41_0, ↓rb_43_0, ↓rb_45_0, ↓rb_47_0, ↓rb_49_0, ↓rb_51_0, ↓rb_53_0, ↓rb_55_0, ↓rb_57_0, ↓rb_57_1, ↓rb_57_2, ↓rb_57_3, ↓rb_57_4, ↓rb_57_5, ↓rb_57_6, ↓rb_57_7, ↓rb_65_0, ↓rb_65_1, ↓rb_65_2, ↓rb_65_3, ↓rb_65_4, ↓rb_65_5, ↓rb_65_6, ↓rb_65_7, ↓rb_73_0, ↓rb_73_1, ↓rb_73_2, ↓rb_73_3, ↓rb_73_4, ↓rb_73_5, ↓rb_73_6, ↓rb_73_7, ↓rb_81_0, ↓rb_81_1, ↓rb_81_2, ↓rb_81_3, ↓rb_81_6, ↓rb_81_7, ↓rb_81_8, ↓rb_81_10, ↓rb_81_11, ↓rb_81_12, ↓rb_81_17, ↓rb_81_22, ↓rb_81_24, ↓rb_81_25, ↓rb_81_26, ↓rb_81_27, oc_0x, aw_1, aw_2, aw_3, oc_4_6, oc_4_5, oc_4_0, oc_4_1, oc_4_9, oc_4_2, oc_5_6, oc_5_5, oc_5_0, oc_5_1, oc_5_9, oc_5_2, oc_6_6, oc_6_5, oc_6_0, oc_6_1, oc_6_9, oc_6_2, oc_7_6, oc_7_5, oc_7_0, oc_7_1, oc_7_9, oc_7_2, oc_8_6, oc_8_5, oc_8_0, oc_8_1, oc_8_9, oc_8_2, oc_9_6, oc_9_5, oc_9_0, oc_9_1, oc_9_9, oc_9_2, oc_10x, al_11, aw_11, al_12, aw_12, al_13, aw_13, al_14, aw_14, al_15, aw_15, al_16, aw_16, al_17, aw_17, oc_18x, al_19, aw_19, al_20, aw_20, al_21, aw_21, al_22, aw_22, al_23, aw_23, al_24, aw_24, al_25, aw_25, aw_26, oc_27x, oc_28x, al_29, aw_29, al_30, aw_30, oc_31x, al_32, aw_32, al_33, aw_33, al_34, aw_34, al_35, aw_35, al_36, aw_36, oc_57x, al_58, aw_58, al_59, aw_59, al_60, aw_60, al_61, aw_61, al_62, aw_62, al_63, aw_63, al_64, aw_64, oc_65x, al_66, aw_66, al_67, aw_67, al_68, aw_68, al_69, aw_69, al_70, aw_70, al_71, aw_71, al_72, aw_72, oc_73x, al_74, aw_74, al_75, aw_75, al_76, aw_76, al_77, aw_77, al_78, aw_78, al_79, aw_79, al_80, aw_80, oc_81x, al_82, aw_82, al_83, aw_83, al_84, aw_84, al_85, aw_85, al_86, aw_86, al_87, aw_87, al_88, aw_88, al_89, aw_89, al_90, aw_90, aw_91, al_92, aw_92, al_93, aw_93, al_94, aw_94, al_95, aw_95, al_96, aw_96, al_97, aw_97, li_0, li_1, li_2, li_3, li_4, li_5, li_6, li_7, li_8, li_9, li_10, li_11, li_12, li_15, li_16, li_18, li_19, li_20, li_24, li_30, li_31, li_32, li_40, li_48, li_49, li_55, li_56, li_57, li_60, li_63, li_97, li_98, li_99, li_100, li_107, li_110, li_115, li_117, li_600, li_640, li_656, li_657, li_1000, li_2147483646, li_1000000, oc_r, oc_t, oc_k, ↓rb_r, ↓rb_rc, aw_r, al_r, ↓rb_t, ↓rb_tc, aw_t, al_t, ↓rb_k, w2_s, w2_j, w2_k, g2_s, g2_j, g2_k, al_1001, al_1000, e_lt, e_le, e_eq, e_nlt, e_nle, e_ltn, e_len, e_neq, e_eqn, e_nn, e_nlen, e_nltn, nI_add, pk_mul, e_sub, e_subn, e_addn, e_clamp, e_inb, e_inbn, e_dec, lt_ap, ll_0, ll_1, e_llt, e_leq, c_lt0, c_gt0, c_le0, nI_l, lN_add, Bool.false_eq_true, not_true_eq_false, not_false_eq_true, d_lt, d_nlt, d_le, d_nle, d_eq, d_neq, h0, hs, hTp, c1]
  by_cases c2 : T p - nI 48 ≤ nI hi
  rotate_left
  · have e : okf T n lo hi p = false := decide_eq_false (fun z => c2 z.2.2)
    rw [e, if_neg Bool.false_ne_true]
    simp (maxSteps := 20000) (disch := omega) only [mk_oc, mk_aw, mk_sI, mk_sL, gi_mk, gg_mk, ↓lt_I, ↓lt_L, ↓bn_some, ↓bq_some, ↓bq_none, ↓bn_none, ↓bq_ite, ↓bn_ite, ↓bq_bind, ↓bn_bind, ↓bq_bq, ↓bn_bq, ↓bq_lt, ↓bn_lt, ↓reduceIte, ↓rb_0_0, ↓rb_0_1, ↓rb_0_2, ↓rb_0_3, ↓rb_0_4, ↓rb_0_5, ↓rb_0_6, ↓rb_0_7, ↓rb_0_8, ↓rb_0_9, ↓rb_0_10, ↓rb_1_0, ↓rb_1_1, ↓rb_1_2, ↓rb_1_3, ↓rb_1_4, ↓rb_1_5, ↓rb_2_0, ↓rb_2_1, ↓rb_2_2, ↓rb_2_3, ↓rb_3_0, ↓rb_3_1, ↓rb_3_2, ↓rb_3_3, ↓rb_3_4, ↓rb_3_5, ↓rb_10_0, ↓rb_10_1, ↓rb_10_2, ↓rb_10_3, ↓rb_10_4, ↓rb_10_5, ↓rb_10_6, ↓rb_10_7, ↓rb_18_0, ↓rb_18_1, ↓rb_18_2, ↓rb_18_3, ↓rb_18_4, ↓rb_18_5, ↓rb_18_6, ↓rb_18_7, ↓rb_26_0, ↓rb_26_1, ↓rb_26_2, ↓rb_28_0, ↓rb_28_1, ↓rb_31_0, ↓rb_31_1, ↓rb_31_2, ↓rb_37_0, ↓rb_39_0, ↓rb_41_0, ↓rb_43_0, ↓rb_45_0, ↓rb_47_0, ↓rb_49_0, ↓rb_51_0, ↓rb_53_0, ↓rb_55_0, ↓rb_57_0, ↓rb_57_1, ↓rb_57_2, ↓rb_57_3, ↓rb_57_4, ↓rb_57_5, ↓rb_57_6, ↓rb_57_7, ↓rb_65_0, ↓rb_65_1, ↓rb_65_2, ↓rb_65_3, ↓rb_65_4, ↓rb_65_5, ↓rb_65_6, ↓rb_65_7, ↓rb_73_0, ↓rb_73_1, ↓rb_73_2, ↓rb_73_3, ↓rb_73_4, ↓rb_73_5, ↓rb_73_6, ↓rb_73_7, ↓rb_81_0, ↓rb_81_1, ↓rb_81_2, ↓rb_81_3, ↓rb_81_6, ↓rb_81_7, ↓rb_81_8, ↓rb_81_10, ↓rb_81_11, ↓rb_81_12, ↓rb_81_17, ↓rb_81_22, ↓rb_81_24, ↓rb_81_25, ↓rb_81_26, ↓rb_81_27, oc_0x, aw_1, aw_2, aw_3, oc_4_6, oc_4_5, oc_4_0, oc_4_1, oc_4_9, oc_4_2, oc_5_6, oc_5_5, oc_5_0, oc_5_1, oc_5_9, oc_5_2, oc_6_6, oc_6_5, oc_6_0, oc_6_1, oc_6_9, oc_6_2, oc_7_6, oc_7_5, oc_7_0, oc_7_1, oc_7_9, oc_7_2, oc_8_6, oc_8_5, oc_8_0, oc_8_1, oc_8_9, oc_8_2, oc_9_6, oc_9_5, oc_9_0, oc_9_1, oc_9_9, oc_9_2, oc_10x, al_11, aw_11, al_12, aw_12, al_13, aw_13, al_14, aw_14, al_15, aw_15, al_16, aw_16, al_17, aw_17, oc_18x, al_19, aw_19, al_20, aw_20, al_21, aw_21, al_22, aw_22, al_23, aw_23, al_24, aw_24, al_25, aw_25, aw_26, oc_27x, oc_28x, al_29, aw_29, al_30, aw_30, oc_31x, al_32, aw_32, al_33, aw_33, al_34, aw_34, al_35, aw_35, al_36, aw_36, oc_57x, al_58, aw_58, al_59, aw_59, al_60, aw_60, al_61, aw_61, al_62, aw_62, al_63, aw_63, al_64, aw_64, oc_65x, al_66, aw_66, al_67, aw_67, al_68, aw_68, al_69, aw_69, al_70, aw_70, al_71, aw_71, al_72, aw_72, oc_73x, al_74, aw_74, al_75, aw_75, al_76, aw_76, al_77, aw_77, al_78, aw_78, al_79, aw_79, al_80, aw_80, oc_81x, al_82, aw_82, al_83, aw_83, al_84, aw_84, al_85, aw_85, al_86, aw_86, al_87, aw_87, al_88, aw_88, al_89, aw_89, al_90, aw_90, aw_91, al_92, aw_92, al_93, aw_93, al_94, aw_94, al_95, aw_95, al_96, aw_96, al_97, aw_97, li_0, li_1, li_2, li_3, li_4, li_5, li_6, li_7, li_8, li_9, li_10, li_11, li_12, li_15, li_16, li_18, li_19, li_20, li_24, li_30, li_31, li_32, li_40, li_48, li_49, li_55, li_56, li_57, li_60, li_63, li_97, li_98, li_99, li_100, li_107, li_110, li_115, li_117, li_600, li_640, li_656, li_657, li_1000, li_2147483646, li_1000000, oc_r, oc_t, oc_k, ↓rb_r, ↓rb_rc, aw_r, al_r, ↓rb_t, ↓rb_tc, aw_t, al_t, ↓rb_k, w2_s, w2_j, w2_k, g2_s, g2_j, g2_k, al_1001, al_1000, e_lt, e_le, e_eq, e_nlt, e_nle, e_ltn, e_len, e_neq, e_eqn, e_nn, e_nlen, e_nltn, nI_add, pk_mul, e_sub, e_subn, e_addn, e_clamp, e_inb, e_inbn, e_dec, lt_ap, ll_0, ll_1, e_llt, e_leq, c_lt0, c_gt0, c_le0, nI_l, lN_add, Bool.false_eq_true, not_true_eq_false, not_false_eq_true, d_lt, d_nlt, d_le, d_nle, d_eq, d_neq, h0, hs, hTp, c1, c2]
  have e : okf T n lo hi p = true := decide_eq_true ⟨c0, c1, c2⟩
  have v1 := (okf_v hlo hhi e).2.1
  rw [e, if_pos rfl, ← v1]
  generalize hz : T p - nI 48 = z at *
  simp (maxSteps := 20000) (disch := omega) only [mk_oc, mk_aw, mk_sI, mk_sL, gi_mk, gg_mk, ↓lt_I, ↓lt_L, ↓bn_some, ↓bq_some, ↓bq_none, ↓bn_none, ↓bq_ite, ↓bn_ite, ↓bq_bind, ↓bn_bind, ↓bq_bq, ↓bn_bq, ↓bq_lt, ↓bn_lt, ↓reduceIte, ↓rb_0_0, ↓rb_0_1, ↓rb_0_2, ↓rb_0_3, ↓rb_0_4, ↓rb_0_5, ↓rb_0_6, ↓rb_0_7, ↓rb_0_8, ↓rb_0_9, ↓rb_0_10, ↓rb_1_0, ↓rb_1_1, ↓rb_1_2, ↓rb_1_3, ↓rb_1_4, ↓rb_1_5, ↓rb_2_0, ↓rb_2_1, ↓rb_2_2, ↓rb_2_3, ↓rb_3_0, ↓rb_3_1, ↓rb_3_2, ↓rb_3_3, ↓rb_3_4, ↓rb_3_5, ↓rb_10_0, ↓rb_10_1, ↓rb_10_2, ↓rb_10_3, ↓rb_10_4, ↓rb_10_5, ↓rb_10_6, ↓rb_10_7, ↓rb_18_0, ↓rb_18_1, ↓rb_18_2, ↓rb_18_3, ↓rb_18_4, ↓rb_18_5, ↓rb_18_6, ↓rb_18_7, ↓rb_26_0, ↓rb_26_1, ↓rb_26_2, ↓rb_28_0, ↓rb_28_1, ↓rb_31_0, ↓rb_31_1, ↓rb_31_2, ↓rb_37_0, ↓rb_39_0, ↓rb_41_0, ↓rb_43_0, ↓rb_45_0, ↓rb_47_0, ↓rb_49_0, ↓rb_51_0, ↓rb_53_0, ↓rb_55_0, ↓rb_57_0, ↓rb_57_1, ↓rb_57_2, ↓rb_57_3, ↓rb_57_4, ↓rb_57_5, ↓rb_57_6, ↓rb_57_7, ↓rb_65_0, ↓rb_65_1, ↓rb_65_2, ↓rb_65_3, ↓rb_65_4, ↓rb_65_5, ↓rb_65_6, ↓rb_65_7, ↓rb_73_0, ↓rb_73_1, ↓rb_73_2, ↓rb_73_3, ↓rb_73_4, ↓rb_73_5, ↓rb_73_6, ↓rb_73_7, ↓rb_81_0, ↓rb_81_1, ↓rb_81_2, ↓rb_81_3, ↓rb_81_6, ↓rb_81_7, ↓rb_81_8, ↓rb_81_10, ↓rb_81_11, ↓rb_81_12, ↓rb_81_17, ↓rb_81_22, ↓rb_81_24, ↓rb_81_25, ↓rb_81_26, ↓rb_81_27, oc_0x, aw_1, aw_2, aw_3, oc_4_6, oc_4_5, oc_4_0, oc_4_1, oc_4_9, oc_4_2, oc_5_6, oc_5_5, oc_5_0, oc_5_1, oc_5_9, oc_5_2, oc_6_6, oc_6_5, oc_6_0, oc_6_1, oc_6_9, oc_6_2, oc_7_6, oc_7_5, oc_7_0, oc_7_1, oc_7_9, oc_7_2, oc_8_6, oc_8_5, oc_8_0, oc_8_1, oc_8_9, oc_8_2, oc_9_6, oc_9_5, oc_9_0, oc_9_1, oc_9_9, oc_9_2, oc_10x, al_11, aw_11, al_12, aw_12, al_13, aw_13, al_14, aw_14, al_15, aw_15, al_16, aw_16, al_17, aw_17, oc_18x, al_19, aw_19, al_20, aw_20, al_21, aw_21, al_22, aw_22, al_23, aw_23, al_24, aw_24, al_25, aw_25, aw_26, oc_27x, oc_28x, al_29, aw_29, al_30, aw_30, oc_31x, al_32, aw_32, al_33, aw_33, al_34, aw_34, al_35, aw_35, al_36, aw_36, oc_57x, al_58, aw_58, al_59, aw_59, al_60, aw_60, al_61, aw_61, al_62, aw_62, al_63, aw_63, al_64, aw_64, oc_65x, al_66, aw_66, al_67, aw_67, al_68, aw_68, al_69, aw_69, al_70, aw_70, al_71, aw_71, al_72, aw_72, oc_73x, al_74, aw_74, al_75, aw_75, al_76, aw_76, al_77, aw_77, al_78, aw_78, al_79, aw_79, al_80, aw_80, oc_81x, al_82, aw_82, al_83, aw_83, al_84, aw_84, al_85, aw_85, al_86, aw_86, al_87, aw_87, al_88, aw_88, al_89, aw_89, al_90, aw_90, aw_91, al_92, aw_92, al_93, aw_93, al_94, aw_94, al_95, aw_95, al_96, aw_96, al_97, aw_97, li_0, li_1, li_2, li_3, li_4, li_5, li_6, li_7, li_8, li_9, li_10, li_11, li_12, li_15, li_16, li_18, li_19, li_20, li_24, li_30, li_31, li_32, li_40, li_48, li_49, li_55, li_56, li_57, li_60, li_63, li_97, li_98, li_99, li_100, li_107, li_110, li_115, li_117, li_600, li_640, li_656, li_657, li_1000, li_2147483646, li_1000000, oc_r, oc_t, oc_k, ↓rb_r, ↓rb_rc, aw_r, al_r, ↓rb_t, ↓rb_tc, aw_t, al_t, ↓rb_k, w2_s, w2_j, w2_k, g2_s, g2_j, g2_k, al_1001, al_1000, e_lt, e_le, e_eq, e_nlt, e_nle, e_ltn, e_len, e_neq, e_eqn, e_nn, e_nlen, e_nltn, nI_add, pk_mul, e_sub, e_subn, e_addn, e_clamp, e_inb, e_inbn, e_dec, lt_ap, ll_0, ll_1, e_llt, e_leq, c_lt0, c_gt0, c_le0, nI_l, lN_add, Bool.false_eq_true, not_true_eq_false, not_false_eq_true, d_lt, d_nlt, d_le, d_nle, d_eq, d_neq, h0, hs, hTp, hz, c1, c2]
theorem q_38 {J : I2} {p : Nat} (ht : t < 4) (hn : n ≤ 60) (hs : J (49 + 2 * t) 1 = nI n) (hT : ∀ i, i < n → J (50 + 2 * t) i = T i) (hp : p < n) (h0 : J 27 0 = nI p) (hL : ∀ j, j < 6 → J 1001 j = letL.getD j 0) : ∀ (ω : Type) (f : Int32 → Sx → Option ω), bq (m38 27 (49 + 2 * t) (mk J G L)) f = if kd (T p) = 6 then f (-nI 9) (mk J G L) else f (nI (kd (T p))) (mk (w2 J 27 0 (nI (p + 1))) G L) := by
  have hTp := hT p hp
  have key : ∀ d k g, 6 - k = d → k ≤ 6 → d < g → l38_16 g 27 (49 + 2 * t) (nI k) (mk J G L) = if fst (fun k => decide (T p = letL.getD k 0)) d k = 6 then some (-nI 9, mk J G L) else some (nI (fst (fun k => decide (T p = letL.getD k 0)) d k), mk (w2 J 27 0 (nI (p + 1))) G L) := by
    intro d
    induction d with
    | zero =>
      intro k g h1 h2 h3
      obtain ⟨g, rfl⟩ : ∃ g', g = g' + 1 := ⟨g - 1, by omega⟩
      obtain rfl : k = 6 := by omega
      show b38_16 _ _ _ _ _ = if (6 : Nat) = 6 then some (-nI 9, mk J G L) else _
      rw [if_pos rfl, f_b38_16]
      simp (maxSteps := 20000) (disch := omega) only [mk_oc, mk_aw, mk_sI, mk_sL, gi_mk, gg_mk, ↓lt_I, ↓lt_L, ↓bn_some, ↓bq_some, ↓bq_none, ↓bn_none, ↓bq_ite, ↓bn_ite, ↓bq_bind, ↓bn_bind, ↓bq_bq, ↓bn_bq, ↓bq_lt, ↓bn_lt, ↓reduceIte, ↓rb_0_0, ↓rb_0_1, ↓rb_0_2, ↓rb_0_3, ↓rb_0_4, ↓rb_0_5, ↓rb_0_6, ↓rb_0_7, ↓rb_0_8, ↓rb_0_9, ↓rb_0_10, ↓rb_1_0, ↓rb_1_1, ↓rb_1_2, ↓rb_1_3, ↓rb_1_4, ↓rb_1_5, ↓rb_2_0, ↓rb_2_1, ↓rb_2_2, ↓rb_2_3, ↓rb_3_0, ↓rb_3_1, ↓rb_3_2, ↓rb_3_3, ↓rb_3_4, ↓rb_3_5, ↓rb_10_0, ↓rb_10_1, ↓rb_10_2, ↓rb_10_3, ↓rb_10_4, ↓rb_10_5, ↓rb_10_6, ↓rb_10_7, ↓rb_18_0, ↓rb_18_1, ↓rb_18_2, ↓rb_18_3, ↓rb_18_4, ↓rb_18_5, ↓rb_18_6, ↓rb_18_7, ↓rb_26_0, ↓rb_26_1, ↓rb_26_2, ↓rb_28_0, ↓rb_28_1, ↓rb_31_0, ↓rb_31_1, ↓rb_31_2, ↓rb_37_0, ↓rb_39_0, ↓rb_41_0, ↓rb_43_0, ↓rb_45_0, ↓rb_47_0, ↓rb_49_0, ↓rb_51_0, ↓rb_53_0, ↓rb_55_0, ↓rb_57_0, ↓rb_57_1, ↓rb_57_2, ↓rb_57_3, ↓rb_57_4, ↓rb_57_5, ↓rb_57_6, ↓rb_57_7, ↓rb_65_0, ↓rb_65_1, ↓rb_65_2, ↓rb_65_3, ↓rb_65_4, ↓rb_65_5, ↓rb_65_6, ↓rb_65_7, ↓rb_73_0, ↓rb_73_1, ↓rb_73_2, ↓rb_73_3, ↓rb_73_4, ↓rb_73_5, ↓rb_73_6, ↓rb_73_7, ↓rb_81_0, ↓rb_81_1, ↓rb_81_2, ↓rb_81_3, ↓rb_81_6, ↓rb_81_7, ↓rb_81_8, ↓rb_81_10, ↓rb_81_11, ↓rb_81_12, ↓rb_81_17, ↓rb_81_22, ↓rb_81_24, ↓rb_81_25, ↓rb_81_26, ↓rb_81_27, oc_0x, aw_1, aw_2, aw_3, oc_4_6, oc_4_5, oc_4_0, oc_4_1, oc_4_9, oc_4_2, oc_5_6, oc_5_5, oc_5_0, oc_5_1, oc_5_9, oc_5_2, oc_6_6, oc_6_5, oc_6_0, oc_6_1, oc_6_9, oc_6_2, oc_7_6, oc_7_5, oc_7_0, oc_7_1, oc_7_9, oc_7_2, oc_8_6, oc_8_5, oc_8_0, oc_8_1, oc_8_9, oc_8_2, oc_9_6, oc_9_5, oc_9_0, oc_9_1, oc_9_9, oc_9_2, oc_10x, al_11, aw_11, al_12, aw_12, al_13, aw_13, al_14, aw_14, al_15, aw_15, al_16, aw_16, al_17, aw_17, oc_18x, al_19, aw_19, al_20, aw_20, al_21, aw_21, al_22, aw_22, al_23, aw_23, al_24, aw_24, al_25, aw_25, aw_26, oc_27x, oc_28x, al_29, aw_29, al_30, aw_30, oc_31x, al_32, aw_32, al_33, aw_33, al_34, aw_34, al_35, aw_35, al_36, aw_36, oc_57x, al_58, aw_58, al_59, aw_59, al_60, aw_60, al_61, aw_61, al_62, aw_62, al_63, aw_63, al_64, aw_64, oc_65x, al_66, aw_66, al_67, aw_67, al_68, aw_68, al_69, aw_69, al_70, aw_70, al_71, aw_71, al_72, aw_72, oc_73x, al_74, aw_74, al_75, aw_75, al_76, aw_76, al_77, aw_77, al_78, aw_78, al_79, aw_79, al_80, aw_80, oc_81x, al_82, aw_82, al_83, aw_83, al_84, aw_84, al_85, aw_85, al_86, aw_86, al_87, aw_87, al_88, aw_88, al_89, aw_89, al_90, aw_90, aw_91, al_92, aw_92, al_93, aw_93, al_94, aw_94, al_95, aw_95, al_96, aw_96, al_97, aw_97, li_0, li_1, li_2, li_3, li_4, li_5, li_6, li_7, li_8, li_9, li_10, li_11, li_12, li_15, li_16, li_18, li_19, li_20, li_24, li_30, li_31, li_32, li_40, li_48, li_49, li_55, li_56, li_57, li_60, li_63, li_97, li_98, li_99, li_100, li_107, li_110, li_115, li_117, li_600, li_640, li_656, li_657, li_1000, li_2147483646, li_1000000, oc_r, oc_t, oc_k, ↓rb_r, ↓rb_rc, aw_r, al_r, ↓rb_t, ↓rb_tc, aw_t, al_t, ↓rb_k, w2_s, w2_j, w2_k, g2_s, g2_j, g2_k, al_1001, al_1000, e_lt, e_le, e_eq, e_nlt, e_nle, e_ltn, e_len, e_neq, e_eqn, e_nn, e_nlen, e_nltn, nI_add, pk_mul, e_sub, e_subn, e_addn, e_clamp, e_inb, e_inbn, e_dec, lt_ap, ll_0, ll_1, e_llt, e_leq, c_lt0, c_gt0, c_le0, nI_l, lN_add, Bool.false_eq_true, not_true_eq_false, not_false_eq_true, d_lt, d_nlt, d_le, d_nle, d_eq, d_neq]
    | succ d ih =>
      intro k g h1 h2 h3
      obtain ⟨g, rfl⟩ : ∃ g', g = g' + 1 := ⟨g - 1, by omega⟩
      have hLk := hL k (by omega)
      have hih := ih (k + 1) g (by omega) (by omega) (by omega)
      have ef : fst (fun k => decide (T p = letL.getD k 0)) (d + 1) k = if decide (T p = letL.getD k 0) = true then k else fst (fun k => decide (T p = letL.getD k 0)) d (k + 1) := rfl
      show b38_16 _ _ _ _ _ = _
      by_cases c : T p = letL.getD k 0
      · rw [ef, if_pos (decide_eq_true c), if_neg (show ¬ k = 6 by omega), f_b38_16]
        simp (maxSteps := 20000) (disch := omega) only [mk_oc, mk_aw, mk_sI, mk_sL, gi_mk, gg_mk, ↓lt_I, ↓lt_L, ↓bn_some, ↓bq_some, ↓bq_none, ↓bn_none, ↓bq_ite, ↓bn_ite, ↓bq_bind, ↓bn_bind, ↓bq_bq, ↓bn_bq, ↓bq_lt, ↓bn_lt, ↓reduceIte, ↓rb_0_0, ↓rb_0_1, ↓rb_0_2, ↓rb_0_3, ↓rb_0_4, ↓rb_0_5, ↓rb_0_6, ↓rb_0_7, ↓rb_0_8, ↓rb_0_9, ↓rb_0_10, ↓rb_1_0, ↓rb_1_1, ↓rb_1_2, ↓rb_1_3, ↓rb_1_4, ↓rb_1_5, ↓rb_2_0, ↓rb_2_1, ↓rb_2_2, ↓rb_2_3, ↓rb_3_0, ↓rb_3_1, ↓rb_3_2, ↓rb_3_3, ↓rb_3_4, ↓rb_3_5, ↓rb_10_0, ↓rb_10_1, ↓rb_10_2, ↓rb_10_3, ↓rb_10_4, ↓rb_10_5, ↓rb_10_6, ↓rb_10_7, ↓rb_18_0, ↓rb_18_1, ↓rb_18_2, ↓rb_18_3, ↓rb_18_4, ↓rb_18_5, ↓rb_18_6, ↓rb_18_7, ↓rb_26_0, ↓rb_26_1, ↓rb_26_2, ↓rb_28_0, ↓rb_28_1, ↓rb_31_0, ↓rb_31_1, ↓rb_31_2, ↓rb_37_0, ↓rb_39_0, ↓rb_41_0, ↓rb_43_0, ↓rb_45_0, ↓rb_47_0, ↓rb_49_0, ↓rb_51_0, ↓rb_53_0, ↓rb_55_0, ↓rb_57_0, ↓rb_57_1, ↓rb_57_2, ↓rb_57_3, ↓rb_57_4, ↓rb_57_5, ↓rb_57_6, ↓rb_57_7, ↓rb_65_0, ↓rb_65_1, ↓rb_65_2, ↓rb_65_3, ↓rb_65_4, ↓rb_65_5, ↓rb_65_6, ↓rb_65_7, ↓rb_73_0, ↓rb_73_1, ↓rb_73_2, ↓rb_73_3, ↓rb_73_4, ↓rb_73_5, ↓rb_73_6, ↓rb_73_7, ↓rb_81_0, ↓rb_81_1, ↓rb_81_2, ↓rb_81_3, ↓rb_81_6, ↓rb_81_7, ↓rb_81_8, ↓rb_81_10, ↓rb_81_11, ↓rb_81_12, ↓rb_81_17, ↓rb_81_22, ↓rb_81_24, ↓rb_81_25, ↓rb_81_26, ↓rb_81_27, oc_0x, aw_1, aw_2, aw_3, oc_4_6, oc_4_5, oc_4_0, oc_4_1, oc_4_9, oc_4_2, oc_5_6, oc_5_5, oc_5_0, oc_5_1, oc_5_9, oc_5_2, oc_6_6, oc_6_5, oc_6_0, oc_6_1, oc_6_9, oc_6_2, oc_7_6, oc_7_5, oc_7_0, oc_7_1, oc_7_9, oc_7_2, oc_8_6, oc_8_5, oc_8_0, oc_8_1, oc_8_9, oc_8_2, oc_9_6, oc_9_5, oc_9_0, oc_9_1, oc_9_9, oc_9_2, oc_10x, al_11, aw_11, al_12, aw_12, al_13, aw_13, al_14, aw_14, al_15, aw_15, al_16, aw_16, al_17, aw_17, oc_18x, al_19, aw_19, al_20, aw_20, al_21, aw_21, al_22, aw_22, al_23, aw_23, al_24, aw_24, al_25, aw_25, aw_26, oc_27x, oc_28x, al_29, aw_29, al_30, aw_30, oc_31x, al_32, aw_32, al_33, aw_33, al_34, aw_34, al_35, aw_35, al_36, aw_36, oc_57x, al_58, aw_58, al_59, aw_59, al_60, aw_60, al_61, aw_61, al_62, aw_62, al_63, aw_63, al_64, aw_64, oc_65x, al_66, aw_66, al_67, aw_67, al_68, aw_68, al_69, aw_69, al_70, aw_70, al_71, aw_71, al_72, aw_72, oc_73x, al_74, aw_74, al_75, aw_75, al_76, aw_76, al_77, aw_77, al_78, aw_78, al_79, aw_79, al_80, aw_80, oc_81x, al_82, aw_82, al_83, aw_83, al_84, aw_84, al_85, aw_85, al_86, aw_86, al_87, aw_87, al_88, aw_88, al_89, aw_89, al_90, aw_90, aw_91, al_92, aw_92, al_93, aw_93, al_94, aw_94, al_95, aw_95, al_96, aw_96, al_97, aw_97, li_0, li_1, li_2, li_3, li_4, li_5, li_6, li_7, li_8, li_9, li_10, li_11, li_12, li_15, li_16, li_18, li_19, li_20, li_24, li_30, li_31, li_32, li_40, li_48, li_49, li_55, li_56, li_57, li_60, li_63, li_97, li_98, li_99, li_100, li_107, li_110, li_115, li_117, li_600, li_640, li_656, li_657, li_1000, li_2147483646, li_1000000, oc_r, oc_t, oc_k, ↓rb_r, ↓rb_rc, aw_r, al_r, ↓rb_t, ↓rb_tc, aw_t, al_t, ↓rb_k, w2_s, w2_j, w2_k, g2_s, g2_j, g2_k, al_1001, al_1000, e_lt, e_le, e_eq, e_nlt, e_nle, e_ltn, e_len, e_neq, e_eqn, e_nn, e_nlen, e_nltn, nI_add, pk_mul, e_sub, e_subn, e_addn, e_clamp, e_inb, e_inbn, e_dec, lt_ap, ll_0, ll_1, e_llt, e_leq, c_lt0, c_gt0, c_le0, nI_l, lN_add, Bool.false_eq_true, not_true_eq_false, not_false_eq_true, d_lt, d_nlt, d_le, d_nle, d_eq, d_neq, h0, hTp, hLk, c]
      · rw [ef, if_neg (show ¬ decide (T p = letL.getD k 0) = true by rw [decide_eq_false c]; exact Bool.false_ne_true), ← hih, f_b38_16]
        generalize letL.getD k 0 = z at *
        simp (maxSteps := 20000) (disch := omega) only [mk_oc, mk_aw, mk_sI, mk_sL, gi_mk, gg_mk, ↓lt_I, ↓lt_L, ↓bn_some, ↓bq_some, ↓bq_none, ↓bn_none, ↓bq_ite, ↓bn_ite, ↓bq_bind, ↓bn_bind, ↓bq_bq, ↓bn_bq, ↓bq_lt, ↓bn_lt, ↓reduceIte, ↓rb_0_0, ↓rb_0_1, ↓rb_0_2, ↓rb_0_3, ↓rb_0_4, ↓rb_0_5, ↓rb_0_6, ↓rb_0_7, ↓rb_0_8, ↓rb_0_9, ↓rb_0_10, ↓rb_1_0, ↓rb_1_1, ↓rb_1_2, ↓rb_1_3, ↓rb_1_4, ↓rb_1_5, ↓rb_2_0, ↓rb_2_1, ↓rb_2_2, ↓rb_2_3, ↓rb_3_0, ↓rb_3_1, ↓rb_3_2, ↓rb_3_3, ↓rb_3_4, ↓rb_3_5, ↓rb_10_0, ↓rb_10_1, ↓rb_10_2, ↓rb_10_3, ↓rb_10_4, ↓rb_10_5, ↓rb_10_6, ↓rb_10_7, ↓rb_18_0, ↓rb_18_1, ↓rb_18_2, ↓rb_18_3, ↓rb_18_4, ↓rb_18_5, ↓rb_18_6, ↓rb_18_7, ↓rb_26_0, ↓rb_26_1, ↓rb_26_2, ↓rb_28_0, ↓rb_28_1, ↓rb_31_0, ↓rb_31_1, ↓rb_31_2, ↓rb_37_0, ↓rb_39_0, ↓rb_41_0, ↓rb_43_0, ↓rb_45_0, ↓rb_47_0, ↓rb_49_0, ↓rb_51_0, ↓rb_53_0, ↓rb_55_0, ↓rb_57_0, ↓rb_57_1, ↓rb_57_2, ↓rb_57_3, ↓rb_57_4, ↓rb_57_5, ↓rb_57_6, ↓rb_57_7, ↓rb_65_0, ↓rb_65_1, ↓rb_65_2, ↓rb_65_3, ↓rb_65_4, ↓rb_65_5, ↓rb_65_6, ↓rb_65_7, ↓rb_73_0, ↓rb_73_1, ↓rb_73_2, ↓rb_73_3, ↓rb_73_4, ↓rb_73_5, ↓rb_73_6, ↓rb_73_7, ↓rb_81_0, ↓rb_81_1, ↓rb_81_2, ↓rb_81_3, ↓rb_81_6, ↓rb_81_7, ↓rb_81_8, ↓rb_81_10, ↓rb_81_11, ↓rb_81_12, ↓rb_81_17, ↓rb_81_22, ↓rb_81_24, ↓rb_81_25, ↓rb_81_26, ↓rb_81_27, oc_0x, aw_1, aw_2, aw_3, oc_4_6, oc_4_5, oc_4_0, oc_4_1, oc_4_9, oc_4_2, oc_5_6, oc_5_5, oc_5_0, oc_5_1, oc_5_9, oc_5_2, oc_6_6, oc_6_5, oc_6_0, oc_6_1, oc_6_9, oc_6_2, oc_7_6, oc_7_5, oc_7_0, oc_7_1, oc_7_9, oc_7_2, oc_8_6, oc_8_5, oc_8_0, oc_8_1, oc_8_9, oc_8_2, oc_9_6, oc_9_5, oc_9_0, oc_9_1, oc_9_9, oc_9_2, oc_10x, al_11, aw_11, al_12, aw_12, al_13, aw_13, al_14, aw_14, al_15, aw_15, al_16, aw_16, al_17, aw_17, oc_18x, al_19, aw_19, al_20, aw_20, al_21, aw_21, al_22, aw_22, al_23, aw_23, al_24, aw_24, al_25, aw_25, aw_26, oc_27x, oc_28x, al_29, aw_29, al_30, aw_30, oc_31x, al_32, aw_32, al_33, aw_33, al_34, aw_34, al_35, aw_35, al_36, aw_36, oc_57x, al_58, aw_58, al_59, aw_59, al_60, aw_60, al_61, aw_61, al_62, aw_62, al_63, aw_63, al_64, aw_64, oc_65x, al_66, aw_66, al_67, aw_67, al_68, aw_68, al_69, aw_69, al_70, aw_70, al_71, aw_71, al_72, aw_72, oc_73x, al_74, aw_74, al_75, aw_75, al_76, aw_76, al_77, aw_77, al_78, aw_78, al_79, aw_79, al_80, aw_80, oc_81x, al_82, aw_82, al_83, aw_83, al_84, aw_84, al_85, aw_85, al_86, aw_86, al_87, aw_87, al_88, aw_88, al_89, aw_89, al_90, aw_90, aw_91, al_92, aw_92, al_93, aw_93, al_94, aw_94, al_95, aw_95, al_96, aw_96, al_97, aw_97, li_0, li_1, li_2, li_3, li_4, li_5, li_6, li_7, li_8, li_9, li_10, li_11, li_12, li_15, li_16, li_18, li_19, li_20, li_24, li_30, li_31, li_32, li_40, li_48, li_49, li_55, li_56, li_57, li_60, li_63, li_97, li_98, li_99, li_100, li_107, li_110, li_115, li_117, li_600, li_640, li_656, li_657, li_1000, li_2147483646, li_1000000, oc_r, oc_t, oc_k, ↓rb_r, ↓rb_rc, aw_r, al_r, ↓rb_t, ↓rb_tc, aw_t, al_t, ↓rb_k, w2_s, w2_j, w2_k, g2_s, g2_j, g2_k, al_1001, al_1000, e_lt, e_le, e_eq, e_nlt, e_nle, e_ltn, e_len, e_neq, e_eqn, e_nn, e_nlen, e_nltn, nI_add, pk_mul, e_sub, e_subn, e_addn, e_clamp, e_inb, e_inbn, e_dec, lt_ap, ll_0, ll_1, e_llt, e_leq, c_lt0, c_gt0, c_le0, nI_l, lN_add, Bool.false_eq_true, not_true_eq_false, not_false_eq_true, d_lt, d_nlt, d_le, d_nle, d_eq, d_neq, h0, hTp, hLk, c]
  intro ω f
  have e := key 6 0 1000 (by omega) (by omega) (by omega)
  have e2 : m38 27 (49 + 2 * t) (mk J G L) = l38_16 1000 27 (49 + 2 * t) (nI 0) (mk J G L) := by
    rw [f_m38]
    simp (maxSteps := 20000) (disch := omega) only [mk_oc, mk_aw, mk_sI, mk_sL, gi_mk, gg_mk, ↓lt_I, ↓lt_L, ↓bn_some, ↓bq_some, ↓bq_none, ↓bn_none, ↓bq_ite, ↓bn_ite, ↓bq_bind, ↓bn_bind, ↓bq_bq, ↓bn_bq, ↓bq_lt, ↓bn_lt, ↓reduceIte, ↓rb_0_0, ↓rb_0_1, ↓rb_0_2, ↓rb_0_3, ↓rb_0_4, ↓rb_0_5, ↓rb_0_6, ↓rb_0_7, ↓rb_0_8, ↓rb_0_9, ↓rb_0_10, ↓rb_1_0, ↓rb_1_1, ↓rb_1_2, ↓rb_1_3, ↓rb_1_4, ↓rb_1_5, ↓rb_2_0, ↓rb_2_1, ↓rb_2_2, ↓rb_2_3, ↓rb_3_0, ↓rb_3_1, ↓rb_3_2, ↓rb_3_3, ↓rb_3_4, ↓rb_3_5, ↓rb_10_0, ↓rb_10_1, ↓rb_10_2, ↓rb_10_3, ↓rb_10_4, ↓rb_10_5, ↓rb_10_6, ↓rb_10_7, ↓rb_18_0, ↓rb_18_1, ↓rb_18_2, ↓rb_18_3, ↓rb_18_4, ↓rb_18_5, ↓rb_18_6, ↓rb_18_7, ↓rb_26_0, ↓rb_26_1, ↓rb_26_2, ↓rb_28_0, ↓rb_28_1, ↓rb_31_0, ↓rb_31_1, ↓rb_31_2, ↓rb_37_0, ↓rb_39_0, ↓rb_41_0, ↓rb_43_0, ↓rb_45_0, ↓rb_47_0, ↓rb_49_0, ↓rb_51_0, ↓rb_53_0, ↓rb_55_0, ↓rb_57_0, ↓rb_57_1, ↓rb_57_2, ↓rb_57_3, ↓rb_57_4, ↓rb_57_5, ↓rb_57_6, ↓rb_57_7, ↓rb_65_0, ↓rb_65_1, ↓rb_65_2, ↓rb_65_3, ↓rb_65_4, ↓rb_65_5, ↓rb_65_6, ↓rb_65_7, ↓rb_73_0, ↓rb_73_1, ↓rb_73_2, ↓rb_73_3, ↓rb_73_4, ↓rb_73_5, ↓rb_73_6, ↓rb_73_7, ↓rb_81_0, ↓rb_81_1, ↓rb_81_2, ↓rb_81_3, ↓rb_81_6, ↓rb_81_7, ↓rb_81_8, ↓rb_81_10, ↓rb_81_11, ↓rb_81_12, ↓rb_81_17, ↓rb_81_22, ↓rb_81_24, ↓rb_81_25, ↓rb_81_26, ↓rb_81_27, oc_0x, aw_1, aw_2, aw_3, oc_4_6, oc_4_5, oc_4_0, oc_4_1, oc_4_9, oc_4_2, oc_5_6, oc_5_5, oc_5_0, oc_5_1, oc_5_9, oc_5_2, oc_6_6, oc_6_5, oc_6_0, oc_6_1, oc_6_9, oc_6_2, oc_7_6, oc_7_5, oc_7_0, oc_7_1, oc_7_9, oc_7_2, oc_8_6, oc_8_5, oc_8_0, oc_8_1, oc_8_9, oc_8_2, oc_9_6, oc_9_5, oc_9_0, oc_9_1, oc_9_9, oc_9_2, oc_10x, al_11, aw_11, al_12, aw_12, al_13, aw_13, al_14, aw_14, al_15, aw_15, al_16, aw_16, al_17, aw_17, oc_18x, al_19, aw_19, al_20, aw_20, al_21, aw_21, al_22, aw_22, al_23, aw_23, al_24, aw_24, al_25, aw_25, aw_26, oc_27x, oc_28x, al_29, aw_29, al_30, aw_30, oc_31x, al_32, aw_32, al_33, aw_33, al_34, aw_34, al_35, aw_35, al_36, aw_36, oc_57x, al_58, aw_58, al_59, aw_59, al_60, aw_60, al_61, aw_61, al_62, aw_62, al_63, aw_63, al_64, aw_64, oc_65x, al_66, aw_66, al_67, aw_67, al_68, aw_68, al_69, aw_69, al_70, aw_70, al_71, aw_71, al_72, aw_72, oc_73x, al_74, aw_74, al_75, aw_75, al_76, aw_76, al_77, aw_77, al_78, aw_78, al_79, aw_79, al_80, aw_80, oc_81x, al_82, aw_82, al_83, aw_83, al_84, aw_84, al_85, aw_85, al_86, aw_86, al_87, aw_87, al_88, aw_88, al_89, aw_89, al_90, aw_90, aw_91, al_92, aw_92, al_93, aw_93, al_94, aw_94, al_95, aw_95, al_96, aw_96, al_97, aw_97, li_0, li_1, li_2, li_3, li_4, li_5, li_6, li_7, li_8, li_9, li_10, li_11, li_12, li_15, li_16, li_18, li_19, li_20, li_24, li_30, li_31, li_32, li_40, li_48, li_49, li_55, li_56, li_57, li_60, li_63, li_97, li_98, li_99, li_100, li_107, li_110, li_115, li_117, li_600, li_640, li_656, li_657, li_1000, li_2147483646, li_1000000, oc_r, oc_t, oc_k, ↓rb_r, ↓rb_rc, aw_r, al_r, ↓rb_t, ↓rb_tc, aw_t, al_t, ↓rb_k, w2_s, w2_j, w2_k, g2_s, g2_j, g2_k, al_1001, al_1000, e_lt, e_le, e_eq, e_nlt, e_nle, e_ltn, e_len, e_neq, e_eqn, e_nn, e_nlen, e_nltn, nI_add, pk_mul, e_sub, e_subn, e_addn, e_clamp, e_inb, e_inbn, e_dec, lt_ap, ll_0, ll_1, e_llt, e_leq, c_lt0, c_gt0, c_le0, nI_l, lN_add, Bool.false_eq_true, not_true_eq_false, not_false_eq_true, d_lt, d_nlt, d_le, d_nle, d_eq, d_neq, h0, hs]
  rw [e2, e]
  unfold kd
  split
  · rfl
  · rfl
end PARC
