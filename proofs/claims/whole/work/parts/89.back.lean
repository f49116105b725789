/-! ===== by which steps: pure ===== -/
def okS (q : Cs) (v : Nat → Nat) (soon : Nat) (B : Nat → Nat) (p t s : Nat) : Bool := can q v (v 3) s p t && (decide (t + tk q s ≤ soon) && (B (t + tk q s)).testBit (dst q v s p))
def anyS (q : Cs) (v : Nat → Nat) (soon : Nat) (B : Nat → Nat) (p t : Nat) : Nat := fst (fun s => okS q v soon B p t s) 8 0
def cr (q : Cs) (v : Nat → Nat) (soon : Nat) (B : Nat → Nat) (t : Nat) : Nat := orN q.2.1 (fun p => orN 8 (fun s => if okS q v soon B p t s = true then 2 ^ p else 0))
def bk (q : Cs) (v : Nat → Nat) (soon pl : Nat) : Nat → Nat → Nat
  | 0 => fun u => if u = soon then 2 ^ pl else 0
  | d + 1 => fun u => if u + (d + 1) = soon then cr q v soon (bk q v soon pl d) u else bk q v soon pl d u
def bA (q : Cs) (v : Nat → Nat) (soon pl : Nat) : Nat → Nat := bk q v soon pl soon
theorem fst_le {f : Nat → Bool} : ∀ {d t : Nat}, t ≤ fst f d t ∧ fst f d t ≤ t + d
  | 0, t => ⟨Nat.le_refl _, Nat.le_refl _⟩
  | d + 1, t => by
    show t ≤ (if f t then t else fst f d (t + 1)) ∧ (if f t then t else fst f d (t + 1)) ≤ t + (d + 1)
    split
    · omega
    · have := fst_le (f := f) (d := d) (t := t + 1)
      omega
theorem fst_lt {f : Nat → Bool} : ∀ {d t : Nat}, fst f d t < t + d → f (fst f d t) = true
  | 0, t, h => by have : t < t + 0 := h; omega
  | d + 1, t, h => by
    have h' : (if f t then t else fst f d (t + 1)) < t + (d + 1) := h
    show f (if f t then t else fst f d (t + 1)) = true
    by_cases c : f t = true
    · rw [if_pos c]; exact c
    · rw [if_neg c] at h' ⊢
      exact fst_lt (by omega)
theorem fst_congr {f g : Nat → Bool} : ∀ {d t : Nat}, (∀ s, t ≤ s → s < t + d → f s = g s) → fst f d t = fst g d t
  | 0, t, _ => rfl
  | d + 1, t, h => by
    show (if f t then t else fst f d (t + 1)) = (if g t then t else fst g d (t + 1))
    rw [h t (by omega) (by omega), fst_congr (fun s a b => h s (by omega) (by omega))]
section BACK
variable {q : Cs} {v : Nat → Nat} {soon pl : Nat}
theorem okS_congr {B B' : Nat → Nat} {p t s : Nat} (h : ∀ u, t < u → u ≤ soon → B u = B' u) : okS q v soon B p t s = okS q v soon B' p t s := by
  have h1 := tk_le (q := q) (s := s)
  unfold okS
  by_cases c : t + tk q s ≤ soon
  · rw [h _ (by omega) c]
  · rw [decide_eq_false c, Bool.false_and, Bool.false_and]
theorem cr_congr {B B' : Nat → Nat} {t : Nat} (h : ∀ u, t < u → u ≤ soon → B u = B' u) : cr q v soon B t = cr q v soon B' t := by
  unfold cr
  apply orN_congr
  intro p _
  apply orN_congr
  intro s _
  rw [okS_congr h]
theorem any_congr {B B' : Nat → Nat} {p t : Nat} (h : ∀ u, t < u → u ≤ soon → B u = B' u) : anyS q v soon B p t = anyS q v soon B' p t := by
  unfold anyS
  exact fst_congr (fun s _ _ => okS_congr h)
theorem any_8 {B : Nat → Nat} {p t : Nat} : anyS q v soon B p t ≤ 8 := by
  have := (fst_le (f := fun s => okS q v soon B p t s) (d := 8) (t := 0)).2
  unfold anyS; omega
theorem any_lt {B : Nat → Nat} {p t : Nat} : anyS q v soon B p t < 8 ↔ ∃ s, s < 8 ∧ okS q v soon B p t s = true := by
  constructor
  · intro h
    exact ⟨_, h, fst_lt (f := fun s => okS q v soon B p t s) (d := 8) (t := 0) (by unfold anyS at h; omega)⟩
  · rintro ⟨s, hs, e⟩
    have := (fst_s (f := fun s => okS q v soon B p t s) (d := 8) (t := 0) (m := s) (by omega) (by omega) e).1
    unfold anyS; omega
theorem or8 {B : Nat → Nat} {p t : Nat} : orN 8 (fun s => if okS q v soon B p t s = true then 2 ^ p else 0) = if anyS q v soon B p t < 8 then 2 ^ p else 0 := by
  apply bit_ext
  intro b
  rw [orN_bit]
  constructor
  · rintro ⟨s, hs, e⟩
    split at e
    · rename_i c
      rw [if_pos (any_lt.mpr ⟨s, hs, c⟩)]; exact e
    · simp at e
  · intro e
    split at e
    · rename_i c
      obtain ⟨s, hs, c⟩ := any_lt.mp c
      exact ⟨s, hs, by rw [if_pos c]; exact e⟩
    · simp at e
theorem cr_lt {B : Nat → Nat} {t : Nat} : cr q v soon B t < 2 ^ q.2.1 := by
  apply lt_bit
  intro b e
  unfold cr at e
  rw [orN_bit] at e
  obtain ⟨p, hp, e⟩ := e
  rw [or8] at e
  split at e
  · rw [Nat.testBit_two_pow] at e
    have : p = b := by simpa using e
    omega
  · simp at e
theorem bk_hi {u : Nat} (h : soon < u) : ∀ d, bk q v soon pl d u = 0
  | 0 => if_neg (by omega)
  | d + 1 => by
    show (if u + (d + 1) = soon then _ else _) = 0
    rw [if_neg (by omega)]; exact bk_hi h d
theorem bk_lo {u : Nat} : ∀ d, u + d < soon → bk q v soon pl d u = 0
  | 0, h => if_neg (by omega)
  | d + 1, h => by
    show (if u + (d + 1) = soon then _ else _) = 0
    rw [if_neg (by omega)]; exact bk_lo d (by omega)
theorem bk_st {u d : Nat} (h : soon ≤ u + d) : ∀ e, bk q v soon pl (d + e) u = bk q v soon pl d u
  | 0 => rfl
  | e + 1 => by
    show (if u + (d + e + 1) = soon then _ else _) = _
    rw [if_neg (by omega)]; exact bk_st h e
theorem bk_A {u d : Nat} (h : soon ≤ u + d) (hd : d ≤ soon) : bk q v soon pl d u = bA q v soon pl u := by
  unfold bA
  have := bk_st (q := q) (v := v) (pl := pl) h (soon - d)
  rw [show d + (soon - d) = soon by omega] at this
  exact this.symm
theorem bk_lt (hp : pl < q.2.1) : ∀ d u, bk q v soon pl d u < 2 ^ q.2.1
  | 0, u => by
    show (if u = soon then 2 ^ pl else 0) < _
    split
    · exact Nat.pow_lt_pow_right (by decide) hp
    · exact Nat.pow_pos (by decide)
  | d + 1, u => by
    show (if u + (d + 1) = soon then _ else _) < _
    split
    · exact cr_lt
    · exact bk_lt hp d u
theorem bA_s : bA q v soon pl soon = 2 ^ pl := by
  rw [← bk_A (d := 0) (by omega) (by omega)]
  exact if_pos rfl
theorem bA_eq {t : Nat} (h : t < soon) : bA q v soon pl t = cr q v soon (bA q v soon pl) t := by
  rw [← bk_A (d := soon - t - 1 + 1) (by omega) (by omega)]
  show (if t + (soon - t - 1 + 1) = soon then _ else _) = _
  rw [if_pos (by omega)]
  exact cr_congr (fun u h1 h2 => bk_A (by omega) (by omega))
theorem cr_bit {B : Nat → Nat} {t p : Nat} : (cr q v soon B t).testBit p = true ↔ p < q.2.1 ∧ ∃ s, s < 8 ∧ okS q v soon B p t s = true := by
  unfold cr
  rw [orN_bit]
  constructor
  · rintro ⟨p', hp, e⟩
    rw [or8] at e
    split at e
    · rename_i c
      rw [Nat.testBit_two_pow] at e
      have : p' = p := by simpa using e
      subst this
      exact ⟨hp, any_lt.mp c⟩
    · simp at e
  · rintro ⟨hp, c⟩
    refine ⟨p, hp, ?_⟩
    rw [or8, if_pos (any_lt.mpr c), Nat.testBit_two_pow]
    simp
/-- one comes from where one is to where one wants to be -/
theorem bA_0 (hD : 0 < q.1) (ho : okv q v) : ∀ n t p, t ≤ n → t ≤ soon → (hR q v (v 3) t).testBit p = true → (bA q v soon pl t).testBit p = true → (bA q v soon pl 0).testBit (v 0) = true := by
  intro n
  induction n with
  | zero =>
    intro t p h1 h2 e1 e2
    obtain rfl : t = 0 := by omega
    rw [hR_0, Nat.testBit_two_pow] at e1
    have : v 0 = p := by simpa using e1
    rw [this]; exact e2
  | succ n ih =>
    intro t p h1 h2 e1 e2
    rcases hh_back t e1 with ⟨c1, c2⟩ | ⟨t', ht', p', hp', s, hs, c1, c2, c3, c4⟩
    · subst c1; rw [← c2]; exact e2
    · refine ih t' p' (by omega) (by omega) c1 ?_
      rw [bA_eq (by omega), cr_bit]
      refine ⟨hp', s, hs, ?_⟩
      unfold okS
      rw [c2, ← c3, c4, decide_eq_true h2, e2]
      rfl
/-- the steps -/
def wl (q : Cs) (v : Nat → Nat) (soon : Nat) (A : Nat → Nat) : Nat → Nat → Nat → List Nat
  | 0, _, _ => []
  | d + 1, p, t => if t < soon then anyS q v soon A p t :: wl q v soon A d (dst q v (anyS q v soon A p t) p) (t + tk q (anyS q v soon A p t)) else []
theorem wl_len {A : Nat → Nat} : ∀ d p t, t ≤ soon → (bA q v soon pl t).testBit p = true → A = bA q v soon pl → (wl q v soon A d p t).length ≤ soon - t
  | 0, p, t, _, _, _ => Nat.zero_le _
  | d + 1, p, t, h, e, hA => by
    subst hA
    unfold wl
    split
    · rename_i c
      rw [bA_eq c, cr_bit] at e
      have hs := any_lt.mpr e.2
      have hok := fst_lt (f := fun s => okS q v soon (bA q v soon pl) p t s) (d := 8) (t := 0) (by unfold anyS at hs; omega)
      have hok : okS q v soon (bA q v soon pl) p t (anyS q v soon (bA q v soon pl) p t) = true := hok
      unfold okS at hok
      simp only [Bool.and_eq_true, decide_eq_true_eq] at hok
      have h1 := tk_le (q := q) (s := anyS q v soon (bA q v soon pl) p t)
      have := wl_len d _ _ hok.2.1 hok.2.2 rfl
      rw [List.length_cons]
      omega
    · exact Nat.zero_le _
theorem any_ok {p t : Nat} (h : t < soon) (e : (bA q v soon pl t).testBit p = true) : anyS q v soon (bA q v soon pl) p t < 8 ∧ can q v (v 3) (anyS q v soon (bA q v soon pl) p t) p t = true ∧ t + tk q (anyS q v soon (bA q v soon pl) p t) ≤ soon ∧ (bA q v soon pl (t + tk q (anyS q v soon (bA q v soon pl) p t))).testBit (dst q v (anyS q v soon (bA q v soon pl) p t) p) = true := by
  rw [bA_eq h, cr_bit] at e
  have hs := any_lt.mpr e.2
  have hok := fst_lt (f := fun s => okS q v soon (bA q v soon pl) p t s) (d := 8) (t := 0) (by unfold anyS at hs; omega)
  have hok : okS q v soon (bA q v soon pl) p t (anyS q v soon (bA q v soon pl) p t) = true := hok
  unfold okS at hok
  simp only [Bool.and_eq_true, decide_eq_true_eq] at hok
  exact ⟨hs, hok.1, hok.2.1, hok.2.2⟩
end BACK
