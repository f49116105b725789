/-! ===== one instruction ===== -/
def HRx (l : Launch) (R : Rx) : Prop := ∀ d mid pc ls st S r S1, R d mid pc ls st S = some (r, S1) → Simx l d mid pc ls st S r S1
theorem and_s {a b : Bool} (h : (a && b) = true) : a = true ∧ b = true := Bool.and_eq_true _ _ ▸ h
theorem beq_s {a b : Nat} (h : Nat.beq a b = true) : a = b := Nat.eq_of_beq_eq_true h
theorem lg_mem {ad : Nat → Nat} {ls : Lx} {i : Nat} {v : Value} (h : lg ls i = some v) : ∃ k : Nat, (lpx ad ls)[k]? = some (i, cvx ad v) := List.getElem?_of_mem (lpx_mem h)
section INV
variable {α : Type} {st : List Value} {x : α}
theorem m_i {f : Int32 → List Value → Option α} (h : (match st with | .int y :: r => f y r | _ => none) = some x) : ∃ y r, st = .int y :: r ∧ f y r = some x := by
  split at h
  · exact ⟨_, _, rfl, h⟩
  · cases h
theorem m_l {f : Int64 → List Value → Option α} (h : (match st with | .long y :: r => f y r | _ => none) = some x) : ∃ y r, st = .long y :: r ∧ f y r = some x := by
  split at h
  · exact ⟨_, _, rfl, h⟩
  · cases h
theorem m_r {f : Nat → List Value → Option α} (h : (match st with | .ref y :: r => f y r | _ => none) = some x) : ∃ y r, st = .ref y :: r ∧ f y r = some x := by
  split at h
  · exact ⟨_, _, rfl, h⟩
  · cases h
theorem m_d {f : Int32 → List Value → Option α} {g : Nat → List Value → Option α} (h : (match st with | .int y :: r => f y r | .ref y :: r => g y r | _ => none) = some x) : (∃ y r, st = .int y :: r ∧ f y r = some x) ∨ ∃ y r, st = .ref y :: r ∧ g y r = some x := by
  split at h
  · exact Or.inl ⟨_, _, rfl, h⟩
  · exact Or.inr ⟨_, _, rfl, h⟩
  · cases h
theorem m_ii {f : Int32 → Int32 → List Value → Option α} (h : (match st with | .int y :: .int z :: r => f y z r | _ => none) = some x) : ∃ y z r, st = .int y :: .int z :: r ∧ f y z r = some x := by
  split at h
  · exact ⟨_, _, _, rfl, h⟩
  · cases h
theorem m_ll {f : Int64 → Int64 → List Value → Option α} (h : (match st with | .long y :: .long z :: r => f y z r | _ => none) = some x) : ∃ y z r, st = .long y :: .long z :: r ∧ f y z r = some x := by
  split at h
  · exact ⟨_, _, _, rfl, h⟩
  · cases h
theorem m_ir {f : Int32 → Nat → List Value → Option α} (h : (match st with | .int y :: .ref z :: r => f y z r | _ => none) = some x) : ∃ y z r, st = .int y :: .ref z :: r ∧ f y z r = some x := by
  split at h
  · exact ⟨_, _, _, rfl, h⟩
  · cases h
theorem m_lr {f : Int64 → Nat → List Value → Option α} (h : (match st with | .long y :: .ref z :: r => f y z r | _ => none) = some x) : ∃ y z r, st = .long y :: .ref z :: r ∧ f y z r = some x := by
  split at h
  · exact ⟨_, _, _, rfl, h⟩
  · cases h
theorem m_rr {f : Nat → Nat → List Value → Option α} (h : (match st with | .ref y :: .ref z :: r => f y z r | _ => none) = some x) : ∃ y z r, st = .ref y :: .ref z :: r ∧ f y z r = some x := by
  split at h
  · exact ⟨_, _, _, rfl, h⟩
  · cases h
theorem m_iir {f : Int32 → Int32 → Nat → List Value → Option α} (h : (match st with | .int y :: .int z :: .ref k :: r => f y z k r | _ => none) = some x) : ∃ y z k r, st = .int y :: .int z :: .ref k :: r ∧ f y z k r = some x := by
  split at h
  · exact ⟨_, _, _, _, rfl, h⟩
  · cases h
theorem m_rir {f : Nat → Int32 → Nat → List Value → Option α} (h : (match st with | .ref y :: .int z :: .ref k :: r => f y z k r | _ => none) = some x) : ∃ y z k r, st = .ref y :: .int z :: .ref k :: r ∧ f y z k r = some x := by
  split at h
  · exact ⟨_, _, _, _, rfl, h⟩
  · cases h
theorem o_i {o : Option Value} {f : Int32 → Option α} (h : (match o with | some (.int y) => f y | _ => none) = some x) : ∃ y, o = some (.int y) ∧ f y = some x := by
  split at h
  · exact ⟨_, rfl, h⟩
  · cases h
theorem o_l {o : Option Value} {f : Int64 → Option α} (h : (match o with | some (.long y) => f y | _ => none) = some x) : ∃ y, o = some (.long y) ∧ f y = some x := by
  split at h
  · exact ⟨_, rfl, h⟩
  · cases h
theorem o_r {o : Option Value} {f : Nat → Option α} (h : (match o with | some (.ref y) => f y | _ => none) = some x) : ∃ y, o = some (.ref y) ∧ f y = some x := by
  split at h
  · exact ⟨_, rfl, h⟩
  · cases h
theorem c_t {b : Bool} {o : Option α} (h : (bif b then o else none) = some x) : b = true ∧ o = some x := by
  cases b
  · cases h
  · exact ⟨rfl, h⟩
theorem i_t {c : Prop} [Decidable c] {o : Option α} (h : (if c then o else none) = some x) : c ∧ o = some x := by
  split at h
  · exact ⟨by assumption, h⟩
  · cases h
theorem i_f {c : Prop} [Decidable c] {o : Option α} (h : (if c then none else o) = some x) : ¬ c ∧ o = some x := by
  split at h
  · cases h
  · exact ⟨by assumption, h⟩
end INV
section SP
variable {l : Launch} {R : Rx} {d mid pc nx a : Nat} {ls : Lx} {st st' : List Value} {S S1 : Sx} {r : Option Value}
/-- an instruction that changes the stack alone -/
theorem sp_st {ins : Instr} (len : Nat) (hd : decode (mtx mid).2.1 pc = .ok (ins, nx - pc)) (hn : Nat.beq nx (pc + len) = true) (hR : HRx l R) (h : R d mid nx ls st' S = some (r, S1))
    (F : ∀ {p : Program} {e : Env} {Rm : Room} {s : State} {m : MethodId} {args : Array Value} {below : List Frame} {meth : Method} {c : Code} {H : Heap} {locs : List Loc} {cells slots : Nat} {Q : State → Prop} {arr : Array Slot} {ad : Nat → Nat}, Cxx (mtx mid) p s m args meth c → decode (mtx mid).2.1 pc = .ok (ins, len) → lhx ad arr (mtx mid).2.2.1 ls → W p l e Rm s m args below meth c H locs cells slots Q (F0 m (pc + len) arr (st'.map (cvx ad))) → W p l e Rm s m args below meth c H locs cells slots Q (F0 m pc arr (st.map (cvx ad)))) : Simx l d mid pc ls st S r S1 := by
  intro p e Rm s m args below meth c Q D cA b sa tL L xs n0 hC hE hsz hfr hlo hcl hsl fin H locs cells slots arr hG hW hS hce hse hl
  have e1 := beq_s hn
  subst e1
  rw [Nat.add_sub_cancel_left] at hd
  exact F hC hd hl (hR _ _ _ _ _ _ _ _ h p e Rm s m args below meth c Q D cA b sa tL L xs n0 hC hE hsz hfr hlo hcl hsl fin H locs cells slots arr hG hW hS hce hse hl)
/-- an instruction that changes the locals -/
theorem sp_lo {ins : Instr} {ls' : Lx} (len : Nat) (hd : decode (mtx mid).2.1 pc = .ok (ins, nx - pc)) (hn : Nat.beq nx (pc + len) = true) (hR : HRx l R) (h : R d mid nx ls' st' S = some (r, S1))
    (F : ∀ {p : Program} {e : Env} {Rm : Room} {s : State} {m : MethodId} {args : Array Value} {below : List Frame} {meth : Method} {c : Code} {H : Heap} {locs : List Loc} {cells slots : Nat} {Q : State → Prop} {arr : Array Slot} {ad : Nat → Nat}, Cxx (mtx mid) p s m args meth c → decode (mtx mid).2.1 pc = .ok (ins, len) → lhx ad arr (mtx mid).2.2.1 ls → (∀ arr', lhx ad arr' (mtx mid).2.2.1 ls' → W p l e Rm s m args below meth c H locs cells slots Q (F0 m (pc + len) arr' (st'.map (cvx ad)))) → W p l e Rm s m args below meth c H locs cells slots Q (F0 m pc arr (st.map (cvx ad)))) : Simx l d mid pc ls st S r S1 := by
  intro p e Rm s m args below meth c Q D cA b sa tL L xs n0 hC hE hsz hfr hlo hcl hsl fin H locs cells slots arr hG hW hS hce hse hl
  have e1 := beq_s hn
  subst e1
  rw [Nat.add_sub_cancel_left] at hd
  exact F hC hd hl (fun arr' hl' => hR _ _ _ _ _ _ _ _ h p e Rm s m args below meth c Q D cA b sa tL L xs n0 hC hE hsz hfr hlo hcl hsl fin H locs cells slots arr' hG hW hS hce hse hl')
/-- a branch -/
theorem sp_br {ins : Instr} {C : Prop} {t1 t2 : Nat} (len : Nat) (hd : decode (mtx mid).2.1 pc = .ok (ins, nx - pc)) (hn : Nat.beq nx (pc + len) = true) (hR : HRx l R) (h1 : C → R d mid t1 ls st' S = some (r, S1)) (h2 : ¬ C → R d mid t2 ls st' S = some (r, S1))
    (F : ∀ {p : Program} {e : Env} {Rm : Room} {s : State} {m : MethodId} {args : Array Value} {below : List Frame} {meth : Method} {c : Code} {H : Heap} {locs : List Loc} {cells slots : Nat} {Q : State → Prop} {arr : Array Slot} {ad : Nat → Nat}, Cxx (mtx mid) p s m args meth c → decode (mtx mid).2.1 pc = .ok (ins, len) → (C → W p l e Rm s m args below meth c H locs cells slots Q (F0 m t1 arr (st'.map (cvx ad)))) → (¬ C → W p l e Rm s m args below meth c H locs cells slots Q (F0 m t2 arr (st'.map (cvx ad)))) → W p l e Rm s m args below meth c H locs cells slots Q (F0 m pc arr (st.map (cvx ad)))) : Simx l d mid pc ls st S r S1 := by
  intro p e Rm s m args below meth c Q D cA b sa tL L xs n0 hC hE hsz hfr hlo hcl hsl fin H locs cells slots arr hG hW hS hce hse hl
  have e1 := beq_s hn
  subst e1
  rw [Nat.add_sub_cancel_left] at hd
  exact F hC hd (fun g => hR _ _ _ _ _ _ _ _ (h1 g) p e Rm s m args below meth c Q D cA b sa tL L xs n0 hC hE hsz hfr hlo hcl hsl fin H locs cells slots arr hG hW hS hce hse hl) (fun g => hR _ _ _ _ _ _ _ _ (h2 g) p e Rm s m args below meth c Q D cA b sa tL L xs n0 hC hE hsz hfr hlo hcl hsl fin H locs cells slots arr hG hW hS hce hse hl)
end SP
