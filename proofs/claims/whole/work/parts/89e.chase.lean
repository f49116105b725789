/-! ===== chase: pure ===== -/
def pk (sm : Bool) (a b : Nat) : Nat := if sm then (if a < b then b else a) else (if b < a then b else a)
def rB (q : Cs) (v : Nat → Nat) (sm : Bool) (f : Nat → Nat) (s : Nat) : Nat → Nat
  | 0 => pk sm (f s) (f ((s + 1) % q.2.1))
  | i + 1 => if ent q v i (v 1) = s then pk sm (rB q v sm f s i) (f (ext q v i)) else rB q v sm f s i
def mv (q : Cs) (v : Nat → Nat) (i p : Nat) : Nat := (2 ^ p ||| 2 ^ ((p + 1) % q.2.1)) ||| orN i (fun j => if ent q v j (v 1) = p then 2 ^ ext q v j else 0)
def cB (sm : Bool) (S : Nat) (f : Nat → Nat) : Nat → Nat
  | 0 => if sm then 0 else 99
  | p + 1 => if S.testBit p then pk sm (cB sm S f p) (f p) else cB sm S f p
def nwR (q : Cs) (v : Nat → Nat) (sm : Bool) (R : Nat → Nat → Nat) (s c : Nat) : Nat := if s = c then 0 else rB q v sm (fun p => if sm then R p c else R s p) (if sm then s else c) q.1 + 1
def RR (q : Cs) (v : Nat → Nat) (n : Nat) : Nat → Nat → Nat → Nat
  | 0 => fun s c => if s = c then 0 else 1000000
  | j + 1 => nwR q v (decide ((n - 1 - j) % 2 = 0)) (RR q v n j)
def mnn (x : Nat) : Nat := if x < 99 then x else 99
section CHASEP
variable {q : Cs} {v : Nat → Nat} {sm : Bool} {f : Nat → Nat}
theorem mv_bit {i p b : Nat} : (mv q v i p).testBit b = true ↔ b = p ∨ b = (p + 1) % q.2.1 ∨ ∃ j, j < i ∧ ent q v j (v 1) = p ∧ ext q v j = b := by
  unfold mv
  rw [Nat.testBit_or, Nat.testBit_or, Bool.or_eq_true, Bool.or_eq_true, orN_bit, Nat.testBit_two_pow, Nat.testBit_two_pow]
  constructor
  · rintro ((e | e) | ⟨j, hj, e⟩)
    · exact Or.inl (by simpa using (of_decide_eq_true e).symm)
    · exact Or.inr (Or.inl (by simpa using (of_decide_eq_true e).symm))
    · split at e
      · rename_i c
        rw [Nat.testBit_two_pow] at e
        exact Or.inr (Or.inr ⟨j, hj, c, by simpa using e⟩)
      · simp at e
  · rintro (e | e | ⟨j, hj, e1, e2⟩)
    · exact Or.inl (Or.inl (decide_eq_true e.symm))
    · exact Or.inl (Or.inr (decide_eq_true e.symm))
    · refine Or.inr ⟨j, hj, ?_⟩
      rw [if_pos e1, Nat.testBit_two_pow]
      exact decide_eq_true e2
theorem mv_lt (ho : okv q v) (hP : 2 ≤ q.2.1) {i p : Nat} (hi : i ≤ q.1) (hp : p < q.2.1) : mv q v i p < 2 ^ q.2.1 := by
  apply lt_bit
  intro b e
  rcases mv_bit.mp e with e | e | ⟨j, hj, e1, e2⟩
  · omega
  · rw [e]; exact Nat.mod_lt _ (by omega)
  · rw [← e2]; exact ext_lt ho (by omega)
theorem pk_t {a b : Nat} : a ≤ pk true a b ∧ b ≤ pk true a b ∧ (pk true a b = a ∨ pk true a b = b) := by
  unfold pk
  rw [if_pos rfl]
  split <;> omega
theorem pk_f {a b : Nat} : pk false a b ≤ a ∧ pk false a b ≤ b ∧ (pk false a b = a ∨ pk false a b = b) := by
  unfold pk
  rw [if_neg Bool.false_ne_true]
  split <;> omega
theorem rB_t {s : Nat} : ∀ i, (∀ b, (mv q v i s).testBit b = true → f b ≤ rB q v true f s i) ∧ ∃ b, (mv q v i s).testBit b = true ∧ rB q v true f s i = f b
  | 0 => by
    have h := pk_t (a := f s) (b := f ((s + 1) % q.2.1))
    constructor
    · intro b e
      rcases mv_bit.mp e with e | e | ⟨j, hj, _⟩
      · rw [e]; exact h.1
      · rw [e]; exact h.2.1
      · omega
    · rcases h.2.2 with e | e
      · exact ⟨s, mv_bit.mpr (Or.inl rfl), e⟩
      · exact ⟨(s + 1) % q.2.1, mv_bit.mpr (Or.inr (Or.inl rfl)), e⟩
  | i + 1 => by
    obtain ⟨h1, b0, h2, h3⟩ := rB_t (s := s) i
    have up : ∀ b, (mv q v i s).testBit b = true → (mv q v (i + 1) s).testBit b = true := fun b e => by
      rcases mv_bit.mp e with e | e | ⟨j, hj, e⟩
      · exact mv_bit.mpr (Or.inl e)
      · exact mv_bit.mpr (Or.inr (Or.inl e))
      · exact mv_bit.mpr (Or.inr (Or.inr ⟨j, by omega, e⟩))
    show (∀ b, (mv q v (i + 1) s).testBit b = true → f b ≤ (if ent q v i (v 1) = s then pk true (rB q v true f s i) (f (ext q v i)) else rB q v true f s i)) ∧ ∃ b, (mv q v (i + 1) s).testBit b = true ∧ (if ent q v i (v 1) = s then pk true (rB q v true f s i) (f (ext q v i)) else rB q v true f s i) = f b
    by_cases c : ent q v i (v 1) = s
    · rw [if_pos c]
      have h := pk_t (a := rB q v true f s i) (b := f (ext q v i))
      constructor
      · intro b e
        rcases mv_bit.mp e with e | e | ⟨j, hj, e1, e2⟩
        · exact Nat.le_trans (h1 b (mv_bit.mpr (Or.inl e))) h.1
        · exact Nat.le_trans (h1 b (mv_bit.mpr (Or.inr (Or.inl e)))) h.1
        · by_cases ej : j = i
          · subst ej; rw [← e2]; exact h.2.1
          · exact Nat.le_trans (h1 b (mv_bit.mpr (Or.inr (Or.inr ⟨j, by omega, e1, e2⟩)))) h.1
      · rcases h.2.2 with e | e
        · exact ⟨b0, up b0 h2, by rw [e, h3]⟩
        · exact ⟨ext q v i, mv_bit.mpr (Or.inr (Or.inr ⟨i, by omega, c, rfl⟩)), e⟩
    · rw [if_neg c]
      constructor
      · intro b e
        rcases mv_bit.mp e with e | e | ⟨j, hj, e1, e2⟩
        · exact h1 b (mv_bit.mpr (Or.inl e))
        · exact h1 b (mv_bit.mpr (Or.inr (Or.inl e)))
        · by_cases ej : j = i
          · subst ej; exact absurd e1 c
          · exact h1 b (mv_bit.mpr (Or.inr (Or.inr ⟨j, by omega, e1, e2⟩)))
      · exact ⟨b0, up b0 h2, h3⟩
theorem rB_f {s : Nat} : ∀ i, (∀ b, (mv q v i s).testBit b = true → rB q v false f s i ≤ f b) ∧ ∃ b, (mv q v i s).testBit b = true ∧ rB q v false f s i = f b
  | 0 => by
    have h := pk_f (a := f s) (b := f ((s + 1) % q.2.1))
    constructor
    · intro b e
      rcases mv_bit.mp e with e | e | ⟨j, hj, _⟩
      · rw [e]; exact h.1
      · rw [e]; exact h.2.1
      · omega
    · rcases h.2.2 with e | e
      · exact ⟨s, mv_bit.mpr (Or.inl rfl), e⟩
      · exact ⟨(s + 1) % q.2.1, mv_bit.mpr (Or.inr (Or.inl rfl)), e⟩
  | i + 1 => by
    obtain ⟨h1, b0, h2, h3⟩ := rB_f (s := s) i
    have up : ∀ b, (mv q v i s).testBit b = true → (mv q v (i + 1) s).testBit b = true := fun b e => by
      rcases mv_bit.mp e with e | e | ⟨j, hj, e⟩
      · exact mv_bit.mpr (Or.inl e)
      · exact mv_bit.mpr (Or.inr (Or.inl e))
      · exact mv_bit.mpr (Or.inr (Or.inr ⟨j, by omega, e⟩))
    show (∀ b, (mv q v (i + 1) s).testBit b = true → (if ent q v i (v 1) = s then pk false (rB q v false f s i) (f (ext q v i)) else rB q v false f s i) ≤ f b) ∧ ∃ b, (mv q v (i + 1) s).testBit b = true ∧ (if ent q v i (v 1) = s then pk false (rB q v false f s i) (f (ext q v i)) else rB q v false f s i) = f b
    by_cases c : ent q v i (v 1) = s
    · rw [if_pos c]
      have h := pk_f (a := rB q v false f s i) (b := f (ext q v i))
      constructor
      · intro b e
        rcases mv_bit.mp e with e | e | ⟨j, hj, e1, e2⟩
        · exact Nat.le_trans h.1 (h1 b (mv_bit.mpr (Or.inl e)))
        · exact Nat.le_trans h.1 (h1 b (mv_bit.mpr (Or.inr (Or.inl e))))
        · by_cases ej : j = i
          · subst ej; rw [← e2]; exact h.2.1
          · exact Nat.le_trans h.1 (h1 b (mv_bit.mpr (Or.inr (Or.inr ⟨j, by omega, e1, e2⟩))))
      · rcases h.2.2 with e | e
        · exact ⟨b0, up b0 h2, by rw [e, h3]⟩
        · exact ⟨ext q v i, mv_bit.mpr (Or.inr (Or.inr ⟨i, by omega, c, rfl⟩)), e⟩
    · rw [if_neg c]
      constructor
      · intro b e
        rcases mv_bit.mp e with e | e | ⟨j, hj, e1, e2⟩
        · exact h1 b (mv_bit.mpr (Or.inl e))
        · exact h1 b (mv_bit.mpr (Or.inr (Or.inl e)))
        · by_cases ej : j = i
          · subst ej; exact absurd e1 c
          · exact h1 b (mv_bit.mpr (Or.inr (Or.inr ⟨j, by omega, e1, e2⟩)))
      · exact ⟨b0, up b0 h2, h3⟩
theorem cB_t {S : Nat} : ∀ p, (∀ b, b < p → S.testBit b = true → f b ≤ cB true S f p) ∧ (cB true S f p = 0 ∨ ∃ b, b < p ∧ S.testBit b = true ∧ cB true S f p = f b)
  | 0 => ⟨fun b h => by omega, Or.inl rfl⟩
  | p + 1 => by
    obtain ⟨h1, h2⟩ := cB_t (S := S) p
    show (∀ b, b < p + 1 → S.testBit b = true → f b ≤ (if S.testBit p then pk true (cB true S f p) (f p) else cB true S f p)) ∧ ((if S.testBit p then pk true (cB true S f p) (f p) else cB true S f p) = 0 ∨ ∃ b, b < p + 1 ∧ S.testBit b = true ∧ (if S.testBit p then pk true (cB true S f p) (f p) else cB true S f p) = f b)
    by_cases c : S.testBit p = true
    · rw [if_pos c]
      have h := pk_t (a := cB true S f p) (b := f p)
      constructor
      · intro b hb e
        by_cases ep : b = p
        · subst ep; exact h.2.1
        · exact Nat.le_trans (h1 b (by omega) e) h.1
      · rcases h.2.2 with e | e
        · rcases h2 with z | ⟨b, hb, e1, e2⟩
          · exact Or.inl (by rw [e, z])
          · exact Or.inr ⟨b, by omega, e1, by rw [e, e2]⟩
        · exact Or.inr ⟨p, by omega, c, e⟩
    · rw [if_neg c]
      constructor
      · intro b hb e
        by_cases ep : b = p
        · subst ep; exact absurd e c
        · exact h1 b (by omega) e
      · rcases h2 with z | ⟨b, hb, e1, e2⟩
        · exact Or.inl z
        · exact Or.inr ⟨b, by omega, e1, e2⟩
theorem cB_f {S : Nat} : ∀ p, (∀ b, b < p → S.testBit b = true → cB false S f p ≤ f b) ∧ (cB false S f p = 99 ∨ ∃ b, b < p ∧ S.testBit b = true ∧ cB false S f p = f b)
  | 0 => ⟨fun b h => by omega, Or.inl rfl⟩
  | p + 1 => by
    obtain ⟨h1, h2⟩ := cB_f (S := S) p
    show (∀ b, b < p + 1 → S.testBit b = true → (if S.testBit p then pk false (cB false S f p) (f p) else cB false S f p) ≤ f b) ∧ ((if S.testBit p then pk false (cB false S f p) (f p) else cB false S f p) = 99 ∨ ∃ b, b < p + 1 ∧ S.testBit b = true ∧ (if S.testBit p then pk false (cB false S f p) (f p) else cB false S f p) = f b)
    by_cases c : S.testBit p = true
    · rw [if_pos c]
      have h := pk_f (a := cB false S f p) (b := f p)
      constructor
      · intro b hb e
        by_cases ep : b = p
        · subst ep; exact h.2.1
        · exact Nat.le_trans h.1 (h1 b (by omega) e)
      · rcases h.2.2 with e | e
        · rcases h2 with z | ⟨b, hb, e1, e2⟩
          · exact Or.inl (by rw [e, z])
          · exact Or.inr ⟨b, by omega, e1, by rw [e, e2]⟩
        · exact Or.inr ⟨p, by omega, c, e⟩
    · rw [if_neg c]
      constructor
      · intro b hb e
        by_cases ep : b = p
        · subst ep; exact absurd e c
        · exact h1 b (by omega) e
      · rcases h2 with z | ⟨b, hb, e1, e2⟩
        · exact Or.inl z
        · exact Or.inr ⟨b, by omega, e1, e2⟩
theorem mnn_le {a b : Nat} (h : a ≤ b) : mnn a ≤ mnn b := by
  unfold mnn
  split <;> split <;> omega
theorem mnn_99 {a : Nat} : mnn a ≤ 99 := by
  unfold mnn
  split <;> omega
theorem cB_rB (ho : okv q v) (hP : 2 ≤ q.2.1) {s : Nat} (hs : s < q.2.1) : cB sm (mv q v q.1 s) (fun p => mnn (f p)) q.2.1 = mnn (rB q v sm f s q.1) := by
  have hlt := mv_lt ho hP (i := q.1) (Nat.le_refl _) hs
  cases sm with
  | true =>
    obtain ⟨h1, b0, h2, h3⟩ := rB_t (q := q) (v := v) (f := f) (s := s) q.1
    obtain ⟨k1, k2⟩ := cB_t (f := fun p => mnn (f p)) (S := mv q v q.1 s) q.2.1
    have k3 := k1 b0 (bit_lt hlt h2) h2
    rw [h3]
    rcases k2 with z | ⟨b, hb, e1, e2⟩
    · have k3 : mnn (f b0) ≤ cB true (mv q v q.1 s) (fun p => mnn (f p)) q.2.1 := k3
      omega
    · have e2 : cB true (mv q v q.1 s) (fun p => mnn (f p)) q.2.1 = mnn (f b) := e2
      have k3 : mnn (f b0) ≤ cB true (mv q v q.1 s) (fun p => mnn (f p)) q.2.1 := k3
      have := mnn_le (h1 b e1)
      rw [h3] at this
      omega
  | false =>
    obtain ⟨h1, b0, h2, h3⟩ := rB_f (q := q) (v := v) (f := f) (s := s) q.1
    obtain ⟨k1, k2⟩ := cB_f (f := fun p => mnn (f p)) (S := mv q v q.1 s) q.2.1
    have k3 := k1 b0 (bit_lt hlt h2) h2
    have k3 : cB false (mv q v q.1 s) (fun p => mnn (f p)) q.2.1 ≤ mnn (f b0) := k3
    rw [h3]
    have l := mnn_99 (a := f b0)
    rcases k2 with z | ⟨b, hb, e1, e2⟩
    · omega
    · have e2 : cB false (mv q v q.1 s) (fun p => mnn (f p)) q.2.1 = mnn (f b) := e2
      have := mnn_le (h1 b e1)
      rw [h3] at this
      omega
theorem rB_P {s : Nat} (Q : Nat → Prop) (h : ∀ b, (mv q v q.1 s).testBit b = true → Q (f b)) : Q (rB q v sm f s q.1) := by
  cases sm with
  | true =>
    obtain ⟨_, b0, h2, h3⟩ := rB_t (q := q) (v := v) (f := f) (s := s) q.1
    rw [h3]; exact h b0 h2
  | false =>
    obtain ⟨_, b0, h2, h3⟩ := rB_f (q := q) (v := v) (f := f) (s := s) q.1
    rw [h3]; exact h b0 h2
/-- what a turn's numbers can be -/
def okR (j x : Nat) : Prop := x ≤ j ∨ (1000000 ≤ x ∧ x ≤ 1000000 + j)
theorem RR_ok (ho : okv q v) (hP : 2 ≤ q.2.1) {n : Nat} : ∀ j s c, s < q.2.1 → c < q.2.1 → okR j (RR q v n j s c)
  | 0, s, c, _, _ => by
    show okR 0 (if s = c then 0 else 1000000)
    unfold okR
    split <;> omega
  | j + 1, s, c, hs, hc => by
    show okR (j + 1) (nwR q v (decide ((n - 1 - j) % 2 = 0)) (RR q v n j) s c)
    unfold nwR
    split
    · unfold okR; omega
    · have key : okR j (rB q v (decide ((n - 1 - j) % 2 = 0)) (fun p => if decide ((n - 1 - j) % 2 = 0) = true then RR q v n j p c else RR q v n j s p) (if decide ((n - 1 - j) % 2 = 0) = true then s else c) q.1) := by
        refine rB_P (okR j) (fun b e => ?_)
        have hb : b < q.2.1 := by
          refine bit_lt (mv_lt ho hP (Nat.le_refl _) ?_) e
          split <;> assumption
        show okR j (if decide ((n - 1 - j) % 2 = 0) = true then RR q v n j b c else RR q v n j s b)
        split
        · exact RR_ok ho hP j b c hb hc
        · exact RR_ok ho hP j s b hs hb
      unfold okR at key ⊢
      omega
end CHASEP
