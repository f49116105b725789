/-! ===== where one can be, hour by hour ===== -/
theorem li_34 : (34 : Int32) = nI 34 := rfl
theorem li_128 : (128 : Int32) = nI 128 := rfl
def orN : Nat → (Nat → Nat) → Nat
  | 0, _ => 0
  | n + 1, f => orN n f ||| f n
theorem orN_bit (f : Nat → Nat) (b : Nat) : ∀ n, (orN n f).testBit b = true ↔ ∃ i, i < n ∧ (f i).testBit b = true
  | 0 => by
    constructor
    · intro h
      simp [orN] at h
    · rintro ⟨i, hi, _⟩
      omega
  | n + 1 => by
    show (orN n f ||| f n).testBit b = true ↔ _
    rw [Nat.testBit_or, Bool.or_eq_true, orN_bit f b n]
    constructor
    · rintro (⟨i, hi, h⟩ | h)
      · exact ⟨i, by omega, h⟩
      · exact ⟨n, by omega, h⟩
    · rintro ⟨i, hi, h⟩
      by_cases e : i = n
      · subst e; exact Or.inr h
      · exact Or.inl ⟨i, by omega, h⟩
theorem orN_0 {f : Nat → Nat} : ∀ {n : Nat}, (∀ i, i < n → f i = 0) → orN n f = 0
  | 0, _ => rfl
  | n + 1, h => by
    show orN n f ||| f n = 0
    rw [orN_0 (fun i hi => h i (by omega)), h n (by omega)]
    rfl
theorem orN_congr {f g : Nat → Nat} : ∀ {n : Nat}, (∀ i, i < n → f i = g i) → orN n f = orN n g
  | 0, _ => rfl
  | n + 1, h => by
    show orN n f ||| f n = orN n g ||| g n
    rw [orN_congr (fun i hi => h i (by omega)), h n (by omega)]
theorem bit_ext {a b : Nat} (h : ∀ i, a.testBit i = true ↔ b.testBit i = true) : a = b := Nat.eq_of_testBit_eq fun i => Bool.eq_iff_iff.mpr (h i)
/-- a step: can it be taken, where does it lead, how long is it -/
def can (q : Cs) (v : Nat → Nat) (set s p t : Nat) : Bool := decide (s = 6 ∨ s = 7) || (decide (s < q.1) && set.testBit s && opn q s (v 1 + t) && decide (ent q v s (v 1 + t) = p))
def dst (q : Cs) (v : Nat → Nat) (s p : Nat) : Nat := if s = 7 then p else if s = 6 then (p + 1) % q.2.1 else ext q v s
def tk (q : Cs) (s : Nat) : Nat := if s = 7 then 1 else if s = 6 then 3 else hrs q s
theorem tk_le {q : Cs} {s : Nat} : 1 ≤ tk q s ∧ tk q s ≤ 3 := by
  have := hrs_le (q := q) (i := s)
  unfold tk
  repeat' split
  all_goals omega
def ctr (q : Cs) (v : Nat → Nat) (set t : Nat) (h : Nat → Nat) (p s u : Nat) : Nat := if (h t).testBit p = true ∧ can q v set s p t = true ∧ u = t + tk q s then 2 ^ dst q v s p else 0
def plc (q : Cs) (v : Nat → Nat) (set t : Nat) (h : Nat → Nat) (p : Nat) : Nat → Nat := fun u => h u ||| orN p (fun p' => orN 8 (fun s => ctr q v set t h p' s u))
def stl (q : Cs) (v : Nat → Nat) (set t : Nat) (h : Nat → Nat) (p s : Nat) : Nat → Nat := fun u => plc q v set t h p u ||| orN s (fun s' => ctr q v set t h p s' u)
def sprd (q : Cs) (v : Nat → Nat) (set t : Nat) (h : Nat → Nat) : Nat → Nat := plc q v set t h q.2.1
def hh (q : Cs) (v : Nat → Nat) (set : Nat) : Nat → Nat → Nat
  | 0 => fun u => if u = 0 then 2 ^ v 0 else 0
  | T + 1 => sprd q v set T (hh q v set T)
section REACH
variable {q : Cs} {v : Nat → Nat} {set t : Nat} {h : Nat → Nat}
theorem ctr_bit {p s u b : Nat} : (ctr q v set t h p s u).testBit b = true ↔ (h t).testBit p = true ∧ can q v set s p t = true ∧ u = t + tk q s ∧ dst q v s p = b := by
  unfold ctr
  split
  · rename_i c
    rw [Nat.testBit_two_pow]
    constructor
    · intro e; exact ⟨c.1, c.2.1, c.2.2, by simpa using e⟩
    · intro e; simpa using e.2.2.2
  · rename_i c
    constructor
    · intro e; simp at e
    · intro e; exact absurd ⟨e.1, e.2.1, e.2.2.1⟩ c
theorem ctr_0 {p s u : Nat} (hu : u ≤ t) : ctr q v set t h p s u = 0 := by
  have := tk_le (q := q) (s := s)
  unfold ctr
  rw [if_neg (by omega)]
theorem ctr_n {p s u : Nat} (hp : ¬ (h t).testBit p = true) : ctr q v set t h p s u = 0 := by
  unfold ctr
  rw [if_neg (fun c => hp c.1)]
theorem plc_lo {p u : Nat} (hu : u ≤ t) : plc q v set t h p u = h u := by
  unfold plc
  rw [orN_0 (fun i _ => orN_0 (fun s _ => ctr_0 hu)), Nat.or_zero]
theorem stl_lo {p s u : Nat} (hu : u ≤ t) : stl q v set t h p s u = h u := by
  unfold stl
  rw [plc_lo hu, orN_0 (fun s _ => ctr_0 hu), Nat.or_zero]
theorem stl_8 {p : Nat} : stl q v set t h p 8 = plc q v set t h (p + 1) := by
  funext u
  unfold stl plc
  show _ = h u ||| (orN p _ ||| orN 8 _)
  rw [Nat.or_assoc]
theorem stl_0 {p : Nat} : stl q v set t h p 0 = plc q v set t h p := by
  funext u
  unfold stl
  show _ ||| 0 = _
  rw [Nat.or_zero]
theorem plc_n {p : Nat} (hp : ¬ (h t).testBit p = true) : plc q v set t h (p + 1) = plc q v set t h p := by
  funext u
  unfold plc
  show h u ||| (orN p _ ||| orN 8 _) = _
  rw [orN_0 (n := 8) (fun s _ => ctr_n hp), Nat.or_zero]
theorem stl_s {p s u : Nat} : stl q v set t h p (s + 1) u = stl q v set t h p s u ||| ctr q v set t h p s u := by
  unfold stl
  show _ ||| (orN s _ ||| _) = _
  rw [Nat.or_assoc]
theorem sprd_bit {u b : Nat} : (sprd q v set t h u).testBit b = true ↔ (h u).testBit b = true ∨ ∃ p, p < q.2.1 ∧ ∃ s, s < 8 ∧ (h t).testBit p = true ∧ can q v set s p t = true ∧ u = t + tk q s ∧ dst q v s p = b := by
  unfold sprd plc
  rw [Nat.testBit_or, Bool.or_eq_true, orN_bit]
  constructor
  · rintro (e | ⟨p, hp, e⟩)
    · exact Or.inl e
    · rw [orN_bit] at e
      obtain ⟨s, hs, e⟩ := e
      exact Or.inr ⟨p, hp, s, hs, ctr_bit.mp e⟩
  · rintro (e | ⟨p, hp, s, hs, e⟩)
    · exact Or.inl e
    · refine Or.inr ⟨p, hp, ?_⟩
      rw [orN_bit]
      exact ⟨s, hs, ctr_bit.mpr e⟩
theorem dst_lt {s p : Nat} (ho : okv q v) (hP : 2 ≤ q.2.1) (hp : p < q.2.1) (hc : can q v set s p t = true) : dst q v s p < q.2.1 := by
  unfold dst
  split
  · exact hp
  · split
    · exact Nat.mod_lt _ (by omega)
    · rename_i c1 c2
      unfold can at hc
      rw [decide_eq_false (by omega), Bool.false_or] at hc
      simp only [Bool.and_eq_true, decide_eq_true_eq] at hc
      exact ext_lt ho hc.1.1.1
theorem pw_le {P : Nat} (h : P ≤ 7) : 2 ^ P ≤ 128 := by
  have := Nat.pow_le_pow_right (n := 2) (by decide) h
  omega
theorem bit_lt {a P b : Nat} (h : a < 2 ^ P) (hb : a.testBit b = true) : b < P := by
  by_cases c : b < P
  · exact c
  · have := Nat.testBit_lt_two_pow (x := a) (i := b) (Nat.lt_of_lt_of_le h (Nat.pow_le_pow_right (by decide) (by omega)))
    rw [this] at hb
    exact absurd hb (by decide)
theorem lt_bit {a P : Nat} (h : ∀ b, a.testBit b = true → b < P) : a < 2 ^ P := by
  apply Nat.lt_pow_two_of_testBit
  intro i hi
  by_cases c : a.testBit i = true
  · have := h i c; omega
  · simpa using c
theorem sprd_lt (ho : okv q v) (hP : 2 ≤ q.2.1) (hb : ∀ u, h u < 2 ^ q.2.1) (u : Nat) : sprd q v set t h u < 2 ^ q.2.1 := by
  apply lt_bit
  intro b hh
  rcases sprd_bit.mp hh with e | ⟨p, hp, s, hs, e1, e2, e3, e4⟩
  · exact bit_lt (hb u) e
  · rw [← e4]; exact dst_lt ho hP hp e2
theorem plc_lt (ho : okv q v) (hP : 2 ≤ q.2.1) (hb : ∀ u, h u < 2 ^ q.2.1) {p : Nat} (hp : p ≤ q.2.1) (u : Nat) : plc q v set t h p u < 2 ^ q.2.1 := by
  apply lt_bit
  intro b hh
  unfold plc at hh
  rw [Nat.testBit_or, Bool.or_eq_true, orN_bit] at hh
  rcases hh with e | ⟨p', hp', e⟩
  · exact bit_lt (hb u) e
  · rw [orN_bit] at e
    obtain ⟨s, hs, e⟩ := e
    obtain ⟨e1, e2, e3, e4⟩ := ctr_bit.mp e
    rw [← e4]; exact dst_lt ho hP (by omega) e2
theorem stl_lt (ho : okv q v) (hP : 2 ≤ q.2.1) (hb : ∀ u, h u < 2 ^ q.2.1) {p s : Nat} (hp : p < q.2.1) (u : Nat) : stl q v set t h p s u < 2 ^ q.2.1 := by
  apply lt_bit
  intro b hh
  unfold stl at hh
  rw [Nat.testBit_or, Bool.or_eq_true, orN_bit] at hh
  rcases hh with e | ⟨s', hs', e⟩
  · exact bit_lt (plc_lt ho hP hb (by omega) u) e
  · obtain ⟨e1, e2, e3, e4⟩ := ctr_bit.mp e
    rw [← e4]; exact dst_lt ho hP hp e2
/-! the class's way of it -/
def rot (P a : Nat) : Nat := (a ^^^ (a &&& 2 ^ (P - 1))) * 2 ||| (if a.testBit (P - 1) then 1 else 0)
theorem rot_bit {P a b : Nat} (hP : 2 ≤ P) (ha : a < 2 ^ P) : (rot P a).testBit b = true ↔ ∃ p, p < P ∧ a.testBit p = true ∧ (p + 1) % P = b := by
  have key : ∀ c : Bool, (((a ^^^ (a &&& 2 ^ (P - 1))) * 2 ||| (if c then 1 else 0)).testBit b = true) ↔ ((b = 0 ∧ c = true) ∨ (0 < b ∧ a.testBit (b - 1) = true ∧ b - 1 ≠ P - 1)) := by
    intro c
    rw [Nat.testBit_or, Bool.or_eq_true, Nat.mul_comm]
    cases b with
    | zero => cases c <;> simp [Nat.testBit_zero]
    | succ b =>
      have e1 : (2 * (a ^^^ (a &&& 2 ^ (P - 1)))).testBit (b + 1) = (a ^^^ (a &&& 2 ^ (P - 1))).testBit b := by
        rw [Nat.testBit_succ]
        congr 1
        omega
      have e2 : (if c then 1 else 0 : Nat).testBit (b + 1) = false := by
        cases c
        · simp
        · simp [Nat.testBit_succ]
      rw [e1, e2, Nat.testBit_xor, Nat.testBit_and, Nat.testBit_two_pow]
      simp only [Bool.false_eq_true, or_false, Nat.add_one_ne_zero, false_and, false_or, Nat.zero_lt_succ, true_and, Nat.add_sub_cancel]
      by_cases e : P - 1 = b
      · subst e
        cases a.testBit (P - 1) <;> simp
      · have e' : b ≠ P - 1 := fun x => e x.symm
        cases a.testBit b <;> simp [e, e']
  unfold rot
  rw [key]
  constructor
  · rintro (⟨rfl, e⟩ | ⟨h0, e1, e2⟩)
    · exact ⟨P - 1, by omega, e, by rw [show P - 1 + 1 = P by omega, Nat.mod_self]⟩
    · have := bit_lt ha e1
      exact ⟨b - 1, this, e1, by rw [show b - 1 + 1 = b by omega, Nat.mod_eq_of_lt (by omega)]⟩
  · rintro ⟨p, hp, e1, e2⟩
    by_cases c : p = P - 1
    · subst c
      rw [show P - 1 + 1 = P by omega, Nat.mod_self] at e2
      exact Or.inl ⟨e2.symm, e1⟩
    · rw [Nat.mod_eq_of_lt (by omega)] at e2
      subst e2
      exact Or.inr ⟨by omega, by simpa using e1, by omega⟩
def lnd (h : Nat → Nat) (t a : Nat) : Nat → Nat := fun u => if u = t then h u ||| a else h u
theorem lnd_bit {t' a u b : Nat} : (lnd h t' a u).testBit b = true ↔ (h u).testBit b = true ∨ (u = t' ∧ a.testBit b = true) := by
  unfold lnd
  split
  · rename_i c
    rw [Nat.testBit_or, Bool.or_eq_true]
    exact ⟨fun e => e.imp id (fun e => ⟨c, e⟩), fun e => e.imp id (fun e => e.2)⟩
  · rename_i c
    exact ⟨fun e => Or.inl e, fun e => e.elim id (fun e => absurd e.1 c)⟩
def cdr (q : Cs) (v : Nat → Nat) (set t : Nat) (a : Nat) (i : Nat) : Bool := set.testBit i && (opn q i (v 1 + t) && a.testBit (ent q v i (v 1 + t)))
def clp (q : Cs) (v : Nat → Nat) (set t : Nat) (h : Nat → Nat) : Nat → Nat → Nat
  | 0 => lnd (lnd h (t + 1) (h t)) (t + 3) (rot q.2.1 (h t))
  | i + 1 => if cdr q v set t (h t) i then lnd (clp q v set t h i) (t + hrs q i) (2 ^ ext q v i) else clp q v set t h i
theorem clp_lo {u : Nat} (hu : u ≤ t) : ∀ k, clp q v set t h k u = h u
  | 0 => by
    show lnd (lnd h (t + 1) (h t)) (t + 3) _ u = _
    unfold lnd
    rw [if_neg (by omega), if_neg (by omega)]
  | i + 1 => by
    have := hrs_le (q := q) (i := i)
    show (if _ then _ else _ : Nat → Nat) u = _
    split
    · show (if u = t + hrs q i then _ else clp q v set t h i u) = h u
      rw [if_neg (by omega), clp_lo hu i]
    · exact clp_lo hu i
theorem clp_bit {u b : Nat} : ∀ k, (clp q v set t h k u).testBit b = true ↔ (h u).testBit b = true ∨ (u = t + 1 ∧ (h t).testBit b = true) ∨ (u = t + 3 ∧ (rot q.2.1 (h t)).testBit b = true) ∨ ∃ i, i < k ∧ cdr q v set t (h t) i = true ∧ u = t + hrs q i ∧ ext q v i = b
  | 0 => by
    show (lnd (lnd h (t + 1) (h t)) (t + 3) _ u).testBit b = true ↔ _
    rw [lnd_bit, lnd_bit]
    constructor
    · rintro ((e | e) | e)
      · exact Or.inl e
      · exact Or.inr (Or.inl e)
      · exact Or.inr (Or.inr (Or.inl e))
    · rintro (e | e | e | ⟨i, hi, _⟩)
      · exact Or.inl (Or.inl e)
      · exact Or.inl (Or.inr e)
      · exact Or.inr e
      · omega
  | k + 1 => by
    show ((if _ then _ else _ : Nat → Nat) u).testBit b = true ↔ _
    have ih := clp_bit (u := u) (b := b) k
    split
    · rename_i c
      rw [lnd_bit, ih]
      constructor
      · rintro ((e | e | e | ⟨i, hi, e⟩) | ⟨e1, e2⟩)
        · exact Or.inl e
        · exact Or.inr (Or.inl e)
        · exact Or.inr (Or.inr (Or.inl e))
        · exact Or.inr (Or.inr (Or.inr ⟨i, by omega, e⟩))
        · rw [Nat.testBit_two_pow] at e2
          exact Or.inr (Or.inr (Or.inr ⟨k, by omega, c, e1, by simpa using e2⟩))
      · rintro (e | e | e | ⟨i, hi, e1, e2, e3⟩)
        · exact Or.inl (Or.inl e)
        · exact Or.inl (Or.inr (Or.inl e))
        · exact Or.inl (Or.inr (Or.inr (Or.inl e)))
        · by_cases ek : i = k
          · subst ek
            exact Or.inr ⟨e2, by rw [Nat.testBit_two_pow]; simpa using e3⟩
          · exact Or.inl (Or.inr (Or.inr (Or.inr ⟨i, by omega, e1, e2, e3⟩)))
    · rename_i c
      rw [ih]
      constructor
      · rintro (e | e | e | ⟨i, hi, e⟩)
        · exact Or.inl e
        · exact Or.inr (Or.inl e)
        · exact Or.inr (Or.inr (Or.inl e))
        · exact Or.inr (Or.inr (Or.inr ⟨i, by omega, e⟩))
      · rintro (e | e | e | ⟨i, hi, e1, e2⟩)
        · exact Or.inl e
        · exact Or.inr (Or.inl e)
        · exact Or.inr (Or.inr (Or.inl e))
        · by_cases ek : i = k
          · subst ek; exact absurd e1 c
          · exact Or.inr (Or.inr (Or.inr ⟨i, by omega, e1, e2⟩))
theorem can_d {s p : Nat} (h6 : s ≠ 6) (h7 : s ≠ 7) : can q v set s p t = true ↔ s < q.1 ∧ set.testBit s = true ∧ opn q s (v 1 + t) = true ∧ ent q v s (v 1 + t) = p := by
  unfold can
  rw [decide_eq_false (by omega), Bool.false_or]
  simp only [Bool.and_eq_true, decide_eq_true_eq, and_assoc]
theorem can_6 {p : Nat} : can q v set 6 p t = true := by unfold can; rfl
theorem can_7 {p : Nat} : can q v set 7 p t = true := by unfold can; rfl
theorem clp_sprd (ho : okv q v) (hP : 2 ≤ q.2.1) (hb : ∀ u, h u < 2 ^ q.2.1) : clp q v set t h q.1 = sprd q v set t h := by
  have hD6 := ho.1
  funext u
  apply bit_ext
  intro b
  rw [clp_bit, sprd_bit, rot_bit hP (hb t)]
  constructor
  · rintro (e | ⟨e1, e2⟩ | ⟨e1, p, hp, e2, e3⟩ | ⟨i, hi, e1, e2, e3⟩)
    · exact Or.inl e
    · exact Or.inr ⟨b, bit_lt (hb t) e2, 7, by decide, e2, can_7, e1, rfl⟩
    · exact Or.inr ⟨p, hp, 6, by decide, e2, can_6, e1, e3⟩
    · unfold cdr at e1
      simp only [Bool.and_eq_true] at e1
      refine Or.inr ⟨ent q v i (v 1 + t), ent_lt ho hi, i, by omega, e1.2.2, (can_d (by omega) (by omega)).mpr ⟨hi, e1.1, e1.2.1, rfl⟩, ?_, ?_⟩
      · unfold tk
        rw [if_neg (by omega), if_neg (by omega)]; exact e2
      · unfold dst
        rw [if_neg (by omega), if_neg (by omega)]; exact e3
  · rintro (e | ⟨p, hp, s, hs, e1, e2, e3, e4⟩)
    · exact Or.inl e
    · by_cases s7 : s = 7
      · subst s7
        have e4' : p = b := e4
        subst e4'
        exact Or.inr (Or.inl ⟨e3, e1⟩)
      · by_cases s6 : s = 6
        · subst s6
          exact Or.inr (Or.inr (Or.inl ⟨e3, p, hp, e1, e4⟩))
        · obtain ⟨c1, c2, c3, c4⟩ := (can_d s6 s7).mp e2
          refine Or.inr (Or.inr (Or.inr ⟨s, c1, ?_, ?_, ?_⟩))
          · unfold cdr
            simp only [Bool.and_eq_true]
            exact ⟨c2, c3, by rw [c4]; exact e1⟩
          · unfold tk at e3
            rw [if_neg s7, if_neg s6] at e3; exact e3
          · unfold dst at e4
            rw [if_neg s7, if_neg s6] at e4; exact e4
theorem hh_lt (ho : okv q v) (hD : 0 < q.1) (set : Nat) : ∀ T u, hh q v set T u < 2 ^ q.2.1
  | 0, u => by
    have hP := ho.2.2.1 hD
    show (if u = 0 then 2 ^ v 0 else 0) < _
    split
    · exact Nat.pow_lt_pow_right (by decide) (ho.2.2.2.2.1 hD)
    · exact Nat.pow_pos (by decide)
  | T + 1, u => sprd_lt ho (ho.2.2.1 hD) (hh_lt ho hD set T) u
theorem sprd_lo {u : Nat} (hu : u ≤ t) : sprd q v set t h u = h u := plc_lo hu
theorem hh_lo {T u : Nat} (hu : u ≤ T) : hh q v set T u = hh q v set u u := by
  obtain ⟨d, rfl⟩ : ∃ d, T = u + d := ⟨T - u, by omega⟩
  clear hu
  induction d with
  | zero => rfl
  | succ d ih =>
    show sprd q v set (u + d) (hh q v set (u + d)) u = _
    rw [sprd_lo (by omega), ih]
/-- H u: where one can be in u hours -/
def hR (q : Cs) (v : Nat → Nat) (set u : Nat) : Nat := hh q v set u u
theorem hh_on {T u b : Nat} (e : (hh q v set T u).testBit b = true) : ∀ d, (hh q v set (T + d) u).testBit b = true
  | 0 => e
  | d + 1 => sprd_bit.mpr (Or.inl (hh_on e d))
theorem hR_step {p s t : Nat} (hp : p < q.2.1) (hs : s < 8) (e : (hR q v set t).testBit p = true) (hc : can q v set s p t = true) : (hR q v set (t + tk q s)).testBit (dst q v s p) = true := by
  have h1 := tk_le (q := q) (s := s)
  have e1 : (hh q v set (t + 1) (t + tk q s)).testBit (dst q v s p) = true := sprd_bit.mpr (Or.inr ⟨p, hp, s, hs, e, hc, rfl, rfl⟩)
  have := hh_on e1 (tk q s - 1)
  rw [show t + 1 + (tk q s - 1) = t + tk q s by omega] at this
  exact this
theorem hh_back {u b : Nat} : ∀ T, (hh q v set T u).testBit b = true → (u = 0 ∧ b = v 0) ∨ ∃ t, t < T ∧ ∃ p, p < q.2.1 ∧ ∃ s, s < 8 ∧ (hR q v set t).testBit p = true ∧ can q v set s p t = true ∧ u = t + tk q s ∧ dst q v s p = b
  | 0, e => by
    have e : (if u = 0 then 2 ^ v 0 else 0 : Nat).testBit b = true := e
    split at e
    · rename_i c
      rw [Nat.testBit_two_pow] at e
      exact Or.inl ⟨c, by simpa using (of_decide_eq_true e).symm⟩
    · simp at e
  | T + 1, e => by
    rcases sprd_bit.mp e with e | ⟨p, hp, s, hs, e⟩
    · rcases hh_back T e with c | ⟨t, ht, c⟩
      · exact Or.inl c
      · exact Or.inr ⟨t, by omega, c⟩
    · exact Or.inr ⟨T, by omega, p, hp, s, hs, e⟩
theorem hR_0 : hR q v set 0 = 2 ^ v 0 := rfl
theorem hR_wait {p t : Nat} (hp : p < q.2.1) (e : (hR q v set t).testBit p = true) : (hR q v set (t + 1)).testBit p = true := hR_step (s := 7) hp (by decide) e can_7
theorem hR_road (hD : 0 < q.1) (ho : okv q v) : ∀ k, (hR q v set (3 * k)).testBit ((v 0 + k) % q.2.1) = true
  | 0 => by
    have h0 := ho.2.2.2.2.1 hD
    rw [Nat.add_zero, Nat.mod_eq_of_lt h0]
    show (hR q v set 0).testBit _ = true
    rw [hR_0, Nat.testBit_two_pow]
    simp
  | k + 1 => by
    have hP := ho.2.2.1 hD
    have := hR_step (s := 6) (Nat.mod_lt _ (by omega)) (by decide) (hR_road hD ho k) can_6
    have e : dst q v 6 ((v 0 + k) % q.2.1) = (v 0 + (k + 1)) % q.2.1 := by
      show ((v 0 + k) % q.2.1 + 1) % q.2.1 = _
      rw [Nat.mod_add_mod, Nat.add_assoc]
    rw [e] at this
    exact this
theorem hR_ex (hD : 0 < q.1) (ho : okv q v) {p : Nat} (hp : p < q.2.1) : ∃ t, t ≤ 18 ∧ (hR q v set t).testBit p = true := by
  have h0 := ho.2.2.2.2.1 hD
  have hP := ho.2.1
  refine ⟨3 * ((p + q.2.1 - v 0) % q.2.1), ?_, ?_⟩
  · have := Nat.mod_lt (p + q.2.1 - v 0) (show 0 < q.2.1 by omega)
    omega
  · have := hR_road (set := set) hD ho ((p + q.2.1 - v 0) % q.2.1)
    rw [Nat.add_mod_mod, show v 0 + (p + q.2.1 - v 0) = p + q.2.1 by omega, Nat.add_mod_right, Nat.mod_eq_of_lt hp] at this
    exact this
/-- how soon -/
def fst (f : Nat → Bool) : Nat → Nat → Nat
  | 0, t => t
  | d + 1, t => if f t then t else fst f d (t + 1)
def sn (q : Cs) (v : Nat → Nat) (set p : Nat) : Nat := fst (fun t => (hR q v set t).testBit p) 30 0
theorem fst_s {f : Nat → Bool} : ∀ {d t m : Nat}, t ≤ m → m ≤ t + d → f m = true → (fst f d t ≤ m ∧ f (fst f d t) = true ∧ t ≤ fst f d t ∧ ∀ x, t ≤ x → x < fst f d t → f x = false)
  | 0, t, m, h1, h2, h3 => by
    obtain rfl : m = t := by omega
    exact ⟨Nat.le_refl _, h3, Nat.le_refl _, fun x a b => by have : x < m := b; omega⟩
  | d + 1, t, m, h1, h2, h3 => by
    show (if f t then t else fst f d (t + 1)) ≤ m ∧ f (if f t then t else fst f d (t + 1)) = true ∧ t ≤ (if f t then t else fst f d (t + 1)) ∧ ∀ x, t ≤ x → x < (if f t then t else fst f d (t + 1)) → f x = false
    by_cases c : f t = true
    · rw [if_pos c]
      exact ⟨h1, c, Nat.le_refl _, fun x a b => by omega⟩
    · rw [if_neg c]
      have hm : t ≠ m := fun e => c (by rw [e]; exact h3)
      obtain ⟨e1, e2, e3, e4⟩ := fst_s (d := d) (t := t + 1) (m := m) (by omega) (by omega) h3
      refine ⟨e1, e2, by omega, fun x a b => ?_⟩
      by_cases ex : x = t
      · subst ex; simpa using c
      · exact e4 x (by omega) b
theorem sn_s (hD : 0 < q.1) (ho : okv q v) {p : Nat} (hp : p < q.2.1) : sn q v set p ≤ 18 ∧ (hR q v set (sn q v set p)).testBit p = true ∧ ∀ x, x < sn q v set p → (hR q v set x).testBit p = false := by
  obtain ⟨m, hm, e⟩ := hR_ex (set := set) hD ho hp
  obtain ⟨e1, e2, e3, e4⟩ := fst_s (f := fun t => (hR q v set t).testBit p) (d := 30) (t := 0) (m := m) (by omega) (by omega) e
  exact ⟨Nat.le_trans e1 hm, e2, fun x hx => e4 x (by omega) hx⟩
end REACH
