/-! ===== whole numbers as nI n and -nI n; all that the functions do with them ===== -/
theorem z_lt {a b : Int32} : a < b ↔ a.toInt < b.toInt := Int32.lt_iff_toInt_lt
theorem z_le {a b : Int32} : a ≤ b ↔ a.toInt ≤ b.toInt := Int32.le_iff_toInt_le
theorem z_eq {a b : Int32} : a = b ↔ a.toInt = b.toInt := Int32.toInt_inj.symm
theorem z_neg {a : Nat} (h : a ≤ 2 ^ 31) : (-nI a).toInt = -(a : Int) := by
  rw [Int32.toInt_neg]
  show (-(Int32.ofNat a).toInt).bmod (2 ^ 32) = _
  rw [Int32.toInt_ofNat']
  by_cases e : a = 2 ^ 31
  · subst e; decide
  · have : ((a : Int)).bmod (2 ^ 32) = a := by
      rw [Int.bmod_def]; split <;> omega
    rw [this, Int.bmod_def]; split <;> omega
theorem z_pos {a : Nat} (h : a < 2 ^ 31) : (nI a).toInt = (a : Int) := nI_toInt h
/-- every int is one of the two -/
theorem z_of (x : Int32) : (∃ j : Nat, j < 2 ^ 31 ∧ x = nI j) ∨ (∃ j : Nat, 0 < j ∧ j ≤ 2 ^ 31 ∧ x = -nI j) := by
  by_cases h : x < 0
  · right
    have h1 := Int32.le_toInt x
    have h2 : x.toInt < 0 := by simpa using z_lt.mp h
    refine ⟨(-x.toInt).toNat, by omega, by omega, ?_⟩
    rw [z_eq, z_neg (by omega)]
    omega
  · left
    obtain ⟨j, h1, h2⟩ := nI_of h
    exact ⟨j, h1, h2⟩
theorem e_lt {a b : Nat} (ha : a < 2 ^ 31) (hb : b < 2 ^ 31) : (nI a < nI b) = (a < b) := propext (nI_ltI ha hb)
theorem e_le {a b : Nat} (ha : a < 2 ^ 31) (hb : b < 2 ^ 31) : (nI a ≤ nI b) = (a ≤ b) := propext (nI_leI ha hb)
theorem e_eq {a b : Nat} (ha : a < 2 ^ 31) (hb : b < 2 ^ 31) : (nI a = nI b) = (a = b) := propext (nI_eq ha hb)
theorem e_nlt {a b : Nat} (ha : a ≤ 2 ^ 31) (h0 : 0 < a) (hb : b < 2 ^ 31) : (-nI a < nI b) = True := by
  rw [z_lt, z_neg ha, z_pos hb]; simp; omega
theorem e_nle {a b : Nat} (ha : a ≤ 2 ^ 31) (hb : b < 2 ^ 31) : (-nI a ≤ nI b) = True := by
  rw [z_le, z_neg ha, z_pos hb]; apply eq_true; omega
theorem e_ltn {a b : Nat} (ha : a ≤ 2 ^ 31) (hb : b < 2 ^ 31) : (nI b < -nI a) = False := by
  rw [z_lt, z_neg ha, z_pos hb]; apply eq_false; omega
theorem e_len {a b : Nat} (ha : a ≤ 2 ^ 31) (h0 : 0 < a) (hb : b < 2 ^ 31) : (nI b ≤ -nI a) = False := by
  rw [z_le, z_neg ha, z_pos hb]; simp; omega
theorem e_neq {a b : Nat} (ha : a ≤ 2 ^ 31) (h0 : 0 < a) (hb : b < 2 ^ 31) : (-nI a = nI b) = False := by
  rw [z_eq, z_neg ha, z_pos hb]; simp; omega
theorem e_eqn {a b : Nat} (ha : a ≤ 2 ^ 31) (h0 : 0 < a) (hb : b < 2 ^ 31) : (nI b = -nI a) = False := by
  rw [z_eq, z_neg ha, z_pos hb]; simp; omega
theorem e_nn {a b : Nat} (ha : a ≤ 2 ^ 31) (hb : b ≤ 2 ^ 31) : (-nI a = -nI b) = (a = b) := by
  rw [z_eq, z_neg ha, z_neg hb]; apply propext; constructor <;> intro h <;> omega
theorem e_nlen {a b : Nat} (ha : a ≤ 2 ^ 31) (hb : b ≤ 2 ^ 31) : (-nI a ≤ -nI b) = (b ≤ a) := by
  rw [z_le, z_neg ha, z_neg hb]; apply propext; constructor <;> intro h <;> omega
theorem e_nltn {a b : Nat} (ha : a ≤ 2 ^ 31) (hb : b ≤ 2 ^ 31) : (-nI a < -nI b) = (b < a) := by
  rw [z_lt, z_neg ha, z_neg hb]; apply propext; constructor <;> intro h <;> omega
theorem e_sub {a b : Nat} (h : b ≤ a) : nI a - nI b = nI (a - b) := pk_sub h
theorem e_subn {a b : Nat} (h : a < b) : nI a - nI b = -nI (b - a) := by
  rw [← pk_sub (show a ≤ b by omega)]
  simp
theorem e_addn {a b : Nat} (h : b ≤ a) : nI a + -nI b = nI (a - b) := by
  rw [← pk_sub h, Int32.sub_eq_add_neg]
theorem e_clamp {a : Nat} (h : a < 2 ^ 31) : (nI a).toNatClampNeg = a := nI_clamp h
theorem e_inb {a N : Nat} (h : a < 2 ^ 31) : inb (nI a) N = decide (a < N) := by
  unfold inb
  rw [nI_clamp h, decide_eq_false (nI_pos h)]
  by_cases q : a < N
  · simp [q]
  · simp [q]; omega
theorem e_inbn {a N : Nat} (h : a ≤ 2 ^ 31) (h0 : 0 < a) : inb (-nI a) N = false := by
  unfold inb
  have : -nI a < 0 := by
    have := e_nlt (b := 0) h h0 (by decide)
    rw [nI_0] at this
    simpa using this
  simp [this]
theorem e_dec {p : Prop} (i : Decidable p) : (decide p = true) = p := by simp
theorem e_or (a b : Nat) : nI a ||| nI b = nI (a ||| b) := by
  apply Int32.toBitVec_inj.1
  show BitVec.ofNat 32 a ||| BitVec.ofNat 32 b = BitVec.ofNat 32 (a ||| b)
  apply BitVec.eq_of_getLsbD_eq
  intro i hi
  simp [hi]
theorem e_and (a b : Nat) : nI a &&& nI b = nI (a &&& b) := by
  apply Int32.toBitVec_inj.1
  show BitVec.ofNat 32 a &&& BitVec.ofNat 32 b = BitVec.ofNat 32 (a &&& b)
  apply BitVec.eq_of_getLsbD_eq
  intro i hi
  simp [hi]
theorem s_l : ∀ n, n < 32 → ((nI n &&& 31).toBitVec.smod 32).toNat = n := by decide
theorem e_shr {a i : Nat} (ha : a < 2 ^ 31) (hi : i < 32) : nI a >>> (nI i &&& 31) = nI (a / 2 ^ i) := pk_shrN ha _ _ (s_l i hi)
theorem e_shl {a i : Nat} (hi : i < 32) (h : a * 2 ^ i < 2 ^ 32) : nI a <<< (nI i &&& 31) = nI (a * 2 ^ i) := pk_shlN _ _ (s_l i hi) h
theorem e_1shl {i : Nat} (hi : i < 31) : (1 : Int32) <<< (nI i &&& 31) = nI (2 ^ i) := by
  have h : 1 * 2 ^ i < 2 ^ 32 := by
    have := Nat.pow_lt_pow_right (a := 2) (by decide) hi
    omega
  have := e_shl (a := 1) (show i < 32 by omega) h
  rw [Nat.one_mul] at this
  exact this
theorem e_bit {a i : Nat} (ha : a < 2 ^ 31) (hi : i < 32) : ((nI a >>> (nI i &&& 31)) &&& 1 = 1) = (a.testBit i = true) := by
  rw [e_shr ha hi, show (1 : Int32) = nI 1 from rfl, e_and, Nat.and_one_is_mod, e_eq (by omega) (by decide), Nat.testBit_eq_decide_div_mod_eq]
  simp
theorem e_not (a b : Nat) : nI a &&& (nI b ^^^ (-1)) = nI (a ^^^ (a &&& b)) := by
  apply Int32.toBitVec_inj.1
  show BitVec.ofNat 32 a &&& (BitVec.ofNat 32 b ^^^ BitVec.ofInt 32 (-1)) = BitVec.ofNat 32 (a ^^^ (a &&& b))
  apply BitVec.eq_of_getLsbD_eq
  intro i hi
  have : BitVec.ofInt 32 (-1) = BitVec.allOnes 32 := by decide
  rw [this]
  simp only [BitVec.getLsbD_and, BitVec.getLsbD_xor, BitVec.getLsbD_allOnes, BitVec.getLsbD_ofNat, hi, decide_true, Bool.true_and, Nat.testBit_xor, Nat.testBit_and]
  cases a.testBit i <;> cases b.testBit i <;> rfl
theorem e_wlt (a b : Int32) : (a.toInt64 < b.toInt64) = (a < b) := by
  rw [Int64.lt_iff_toInt_lt, Int32.toInt_toInt64, Int32.toInt_toInt64, ← Int32.lt_iff_toInt_lt]
theorem e_weq (a b : Int32) : (a.toInt64 = b.toInt64) = (a = b) := by
  rw [← Int64.toInt_inj, Int32.toInt_toInt64, Int32.toInt_toInt64, Int32.toInt_inj]
theorem c_lt (x y : Int64) : (lg_cmp x y < 0) = (x < y) := by
  unfold lg_cmp
  by_cases h : x > y
  · simp only [h, if_true]
    have h' : y.toInt < x.toInt := Int64.lt_iff_toInt_lt.mp h
    rw [Int64.lt_iff_toInt_lt]
    apply propext
    constructor
    · intro q; exact absurd q (by decide)
    · intro q; omega
  · simp only [h, if_false]
    have h' : ¬ y.toInt < x.toInt := fun q => h (Int64.lt_iff_toInt_lt.mpr q)
    rw [Int64.lt_iff_toInt_lt]
    by_cases e : x = y
    · subst e; simp
    · have e' : x.toInt ≠ y.toInt := fun q => e (Int64.toInt_inj.mp q)
      simp only [e, if_false]
      apply propext
      constructor
      · intro _; omega
      · intro _; decide
theorem c_gt (x y : Int64) : (0 < lg_cmp x y) = (y < x) := by
  unfold lg_cmp
  by_cases h : y < x
  · rw [if_pos h]
    exact propext ⟨fun _ => h, fun _ => by decide⟩
  · rw [if_neg h]
    refine propext ⟨fun q => ?_, fun q => absurd q h⟩
    by_cases e : x = y
    · rw [if_pos e] at q; exact absurd q (by decide)
    · rw [if_neg e] at q; exact absurd q (by decide)
theorem c_le (x y : Int64) : (lg_cmp x y ≤ 0) = ¬ (y < x) := by
  rw [← c_gt, z_le, z_lt]
  apply propext
  constructor <;> intro h <;> omega
theorem p_in (x y z : Int32) (S : Sx) : m150 x.toInt64 y.toInt64 z.toInt64 S = some (if x < y then 0 else if z < x then 0 else 1, S) := by
  unfold m150
  simp only [c_lt, c_gt, e_wlt]
  by_cases h1 : x < y
  · simp only [h1, if_true]
  · by_cases h2 : z < x
    · simp only [h1, h2, if_true, if_false]
    · simp only [h1, h2, if_false]
