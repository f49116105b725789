/-! ===== forgetting dead locals; functions that the abstract machine computes ===== -/
def kil : List (Nat × List Nat) → Nat → Lx → Lx
  | [], _, ls => ls
  | q :: t, pc, ls => bif Nat.beq q.1 pc then q.2.foldl (fun l i => l.set i none) ls else kil t pc ls
def rk (P : List Mx) (K : List (List (Nat × List Nat))) : Nat → Rx
  | 0 => fun _ _ _ _ _ _ => none
  | f + 1 => fun d mid pc ls st S => match fnd (P.getD mid dm).2.2.2.2 pc with
    | none => none
    | some e => stp P (rk P K f) d mid e (kil (K.getD mid []) pc ls) st S
theorem set_lh {ad : Nat → Nat} {arr : Array Slot} {n i : Nat} {ls : Lx} (h : lhx ad arr n ls) : lhx ad arr n (ls.set i none) := by
  refine ⟨by rw [List.length_set]; exact h.1, h.2.1, h.2.2.1, fun j v hj => ?_⟩
  by_cases hi : i < ls.length
  · rw [lg_set ls i j none hi] at hj
    split at hj
    · cases hj
    · exact h.2.2.2 j v hj
  · rw [List.set_eq_of_length_le (by omega)] at hj
    exact h.2.2.2 j v hj
theorem fold_lh {ad : Nat → Nat} {arr : Array Slot} {n : Nat} : ∀ (is : List Nat) (ls : Lx), lhx ad arr n ls → lhx ad arr n (is.foldl (fun l i => l.set i none) ls)
  | [], _, h => h
  | _ :: t, _, h => fold_lh t _ (set_lh h)
theorem kil_lh {ad : Nat → Nat} {arr : Array Slot} {n : Nat} {ls : Lx} {pc : Nat} : ∀ (m : List (Nat × List Nat)), lhx ad arr n ls → lhx ad arr n (kil m pc ls)
  | [], h => h
  | q :: t, h => by
    show lhx ad arr n (bif Nat.beq q.1 pc then q.2.foldl (fun l i => l.set i none) ls else kil t pc ls)
    cases Nat.beq q.1 pc
    · exact kil_lh t h
    · exact fold_lh _ _ h
theorem rk_mo (P : List Mx) (K : List (List (Nat × List Nat))) : ∀ f : Nat, MoR (rk P K f)
  | 0 => fun d mid pc ls st S r S1 h => by cases h
  | f + 1 => fun d mid pc ls st S r S1 h => by
    have h3 : (match fnd (P.getD mid dm).2.2.2.2 pc with | none => none | some e => stp P (rk P K f) d mid e (kil (K.getD mid []) pc ls) st S) = some (r, S1) := h
    clear h
    split at h3
    · cases h3
    · exact stp_mo (rk_mo P K f) h3
theorem simk (l : Launch) (K : List (List (Nat × List Nat))) (hpx : ∀ m ∈ px, okm m) : ∀ f : Nat, HRx l (rk px K f)
  | 0 => fun d mid pc ls st S r S1 h => by cases h
  | f + 1 => fun d mid pc ls st S r S1 h => by
    have h3 : (match fnd (mtx mid).2.2.2.2 pc with | none => none | some e => stp px (rk px K f) d mid e (kil (K.getD mid []) pc ls) st S) = some (r, S1) := h
    clear h
    split at h3
    · cases h3
    · rename_i e he
      obtain ⟨h1, h2⟩ := fnd_spec _ _ _ he
      subst h2
      have hok : okm (mtx mid) := by
        rcases mtx_in mid with q | q
        · exact hpx _ q
        · rw [q] at h1
          cases h1
      have hs := s_step (rk_mo px K f) (simk l K hpx f) (hok e h1).1 (hok e h1).2 h3
      intro p e Rm s m args below meth c Q D cA b sa tL L xs n0 hC hE hsz hfr hlo hcl hsl fin H locs cells slots arr hG hW hS hce hse hl
      exact hs p e Rm s m args below meth c Q D cA b sa tL L xs n0 hC hE hsz hfr hlo hcl hsl fin H locs cells slots arr hG hW hS hce hse (kil_lh _ hl)
/-! the judgement: from some fuel on, the machine's run is the function's value -/
def wI (q : Int32 × Sx) : Option Value × Sx := (some (.int q.1), q.2)
def wL (q : Int64 × Sx) : Option Value × Sx := (some (.long q.1), q.2)
def wR (q : Nat × Sx) : Option Value × Sx := (some (.ref q.1), q.2)
def wV (q : Sx) : Option Value × Sx := (none, q)
def lt {α : Type} (e : Sx) (F : Sx → α) : α := F e
def OkF {α : Type} (w : α → Option Value × Sx) (X : Nat → Ox) (o : Option α) : Prop := ∀ x, o = some x → ∃ f0, ∀ f, X (f0 + f) = some (w x)
section OKF
variable {α β : Type} {w : α → Option Value × Sx} {w1 : β → Option Value × Sx} {X Y : Nat → Ox} {o o1 o2 : Option α}
theorem OkF.no : OkF w X none := fun x h => by cases h
theorem OkF.eq (k : Nat) (e : ∀ f, X (f + k) = Y f) (h : OkF w Y o) : OkF w X o := by
  intro x hx
  obtain ⟨f0, hf⟩ := h x hx
  refine ⟨f0 + k, fun f => ?_⟩
  rw [show f0 + k + f = f0 + f + k by omega, e]
  exact hf f
theorem OkF.ret {x : α} (k : Nat) (e : ∀ f, X (f + k) = some (w x)) : OkF w X (some x) := by
  intro y hy
  cases hy
  exact ⟨k, fun f => by rw [Nat.add_comm]; exact e f⟩
theorem OkF.ite {c : Prop} [Decidable c] (h1 : c → OkF w X o1) (h2 : ¬ c → OkF w Y o2) : OkF w (fun f => if c then X f else Y f) (if c then o1 else o2) := by
  by_cases hc : c
  · simp only [if_pos hc]
    exact h1 hc
  · simp only [if_neg hc]
    exact h2 hc
theorem OkF.grd {c : Prop} [Decidable c] (h1 : c → OkF w X o1) : OkF w (fun f => if c then X f else none) (if c then o1 else none) := OkF.ite h1 (fun _ => OkF.no)
theorem OkF.ngr {c : Prop} [Decidable c] (h1 : ¬ c → OkF w X o1) : OkF w (fun f => if c then none else X f) (if c then none else o1) := OkF.ite (fun _ => OkF.no) h1
theorem OkF.bind {X1 : Nat → Ox} {G : Nat → Option Value × Sx → Ox} {o0 : Option β} {F : β → Option α} (h1 : OkF w1 X1 o0) (h2 : ∀ q, OkF w (fun f => G f (w1 q)) (F q)) : OkF w (fun f => (X1 f).bind (G f)) (o0.bind F) := by
  intro x hx
  obtain ⟨q, hq, hF⟩ := Option.bind_eq_some_iff.mp hx
  obtain ⟨f1, e1⟩ := h1 q hq
  obtain ⟨f2, e2⟩ := h2 q x hF
  refine ⟨f1 + f2, fun f => ?_⟩
  show (X1 (f1 + f2 + f)).bind _ = _
  rw [show f1 + f2 + f = f1 + (f2 + f) by omega, e1, Option.bind_some, show f1 + (f2 + f) = f2 + (f1 + f) by omega]
  exact e2 (f1 + f)
theorem OkF.rf {d mid pc : Nat} {ls : Lx} {st : List Value} {S : Sx} {K : List (List (Nat × List Nat))} {r : Option Nat} {F : Nat → Option α} (h : ∀ a, OkF w (fun f => rk px K f d mid pc ls (.ref a :: st) S) (F a)) : OkF w (fun f => rk px K f d mid pc ls (va_rf r :: st) S) (r.bind F) := by
  cases r with
  | none => exact OkF.no
  | some a => exact h a
theorem OkF.nm {d mid pc : Nat} {ls : Lx} {st : List Value} {e : Sx} {K : List (List (Nat × List Nat))} {F : Sx → Option α} (h : ∀ S1, OkF w (fun f => rk px K f d mid pc ls st S1) (F S1)) : OkF w (fun f => rk px K f d mid pc ls st e) (lt e F) := h e
theorem OkF.kl {d mid pc : Nat} {ls ls1 : Lx} {st : List Value} {S : Sx} {K : List (List (Nat × List Nat))} (e : ∀ f, rk px K (f + 1) d mid pc ls st S = rk px K (f + 1) d mid pc ls1 st S) (h : OkF w (fun f => rk px K f d mid pc ls1 st S) o) : OkF w (fun f => rk px K f d mid pc ls st S) o := by
  intro x hx
  obtain ⟨f0, hf⟩ := h x hx
  refine ⟨f0 + 1, fun f => ?_⟩
  show rk px K (f0 + 1 + f) d mid pc ls st S = _
  rw [show f0 + 1 + f = f0 + f + 1 by omega, e, show f0 + f + 1 = f0 + (f + 1) by omega]
  exact hf (f + 1)
/-- a dispatch by the receiver's class -/
def vsl (P : List Mx) (R : Rx) (d : Nat) (S : Sx) (k : Nat) (as : List Value) : List Nat → Ox
  | ci :: m :: t => if oc S k ci = true then (bif Nat.ble (rwd (.ref k :: as)) (P.getD m dm).2.2.1 then R d m 0 (ini (P.getD m dm).2.2.1 (.ref k :: as)) [] S else none) else vsl P R d S k as t
  | _ => none
theorem vcl_vsl {P : List Mx} {R : Rx} {d mid nx : Nat} {ls : Lx} {rest : List Value} {S : Sx} {k : Nat} {as : List Value} (hr : Nat.ble (rwd rest) 8 = true) : ∀ tab : List Nat, vcl P R (d + 1) mid nx ls rest S k as tab = (vsl P R d S k as tab).bind (fun q => R (d + 1) mid nx ls (q.1.toList ++ rest) q.2)
  | [] => rfl
  | [_] => rfl
  | ci :: m :: t => by
    have ih := vcl_vsl (P := P) (R := R) (d := d) (mid := mid) (nx := nx) (ls := ls) (S := S) (k := k) (as := as) hr t
    show (if oc S k ci = true then cal P R (d + 1) mid nx ls rest S m (.ref k :: as) else vcl P R (d + 1) mid nx ls rest S k as t) = (if oc S k ci = true then (bif Nat.ble (rwd (.ref k :: as)) (P.getD m dm).2.2.1 then R d m 0 (ini (P.getD m dm).2.2.1 (.ref k :: as)) [] S else none) else vsl P R d S k as t).bind _
    by_cases g : oc S k ci = true
    · rw [if_pos g, if_pos g]
      show (bif Nat.ble (rwd rest) 8 && Nat.ble (rwd (.ref k :: as)) (P.getD m dm).2.2.1 then _ else none) = _
      rw [hr, Bool.true_and]
      cases Nat.ble (rwd (.ref k :: as)) (P.getD m dm).2.2.1 <;> rfl
    · rw [if_neg g, if_neg g, ih]
theorem OkF.vir {d mid nx : Nat} {ls : Lx} {rest : List Value} {S : Sx} {k : Nat} {as : List Value} {tab : List Nat} {K : List (List (Nat × List Nat))} {o0 : Option (Int32 × Sx)} {F : Int32 × Sx → Option α} (hr : Nat.ble (rwd rest) 8 = true) (h1 : OkF wI (fun f => vsl px (rk px K f) d S k as tab) o0) (h2 : ∀ q, OkF w (fun f => rk px K f (d + 1) mid nx ls ((wI q).1.toList ++ rest) (wI q).2) (F q)) : OkF w (fun f => vcl px (rk px K f) (d + 1) mid nx ls rest S k as tab) (o0.bind F) := by
  refine OkF.eq 0 (Y := fun f => (vsl px (rk px K f) d S k as tab).bind (fun q => rk px K f (d + 1) mid nx ls (q.1.toList ++ rest) q.2)) (fun f => vcl_vsl hr tab) ?_
  exact OkF.bind h1 h2
end OKF
def kx : List (List (Nat × List Nat)) := [[(199, []), (228, []), (256, [])], [], [], [], [], [], [], [], [], [], [], [], [], [], [], [], [(15, [1])], [], [], [], [], [], [], [], [(51, [1, 2, 3, 4, 5]), (88, [1, 2, 3, 4, 5])], [], [(4, [2])], [], [], [], [], [(35, []), (77, [1, 3])], [], [(2, [])], [(0, [])], [], [], [], [(16, [])], [], [(72, [1])], [], [], [], [], [], [(22, [1])], [], [], [], [], [], [], [], [], [], [], [], [], [], [], [], [], [], [], [], [], [], [], [(4, []), (41, [])], [], [], [], [], [], [], [], [], [], [], [], [], [], [], [], [(6, [])], [], [], [], [], [], [(8, [])], [(2, [])], [(33, []), (83, [])], [], [], [], [], [], [(8, [])], [], [], [(3, [5]), (38, [2, 3, 5]), (46, [2, 3]), (83, [2, 3])], [(3, [5]), (68, [5])], [], [], [], [(12, [7])], [], [(26, [6]), (80, []), (116, [6])], [], [(4, []), (29, [])], [(26, [6]), (78, []), (116, [6])], [], [(22, [3]), (76, [3]), (118, [3])], [(57, [1, 4, 5]), (97, [1, 4, 5]), (102, [1, 4, 5]), (149, [1, 2, 3, 4, 5])], [(13, [1, 7])], [(19, [3]), (68, [3])], [(12, [3, 4]), (36, [1, 4])], [(2, [])], [(20, [4]), (36, []), (76, []), (79, [])], [], [], [(8, [6]), (20, []), (54, []), (73, [4, 6]), (110, [4, 6])], [(2, []), (37, [])], [(2, [4, 5]), (13, [5]), (55, [5]), (77, [5])], [(6, []), (49, [])], [(7, []), (50, [])], [(30, [5]), (90, [5])], [], [(5, [4]), (50, [3, 4]), (52, [4])], [(4, [2]), (32, [2])], [(9, [2, 4, 6, 8, 10, 11]), (45, [2, 4, 6, 7, 8, 9, 10, 11]), (55, [2, 4, 6, 7, 8, 9, 10, 11])], [(22, [4]), (78, [4])], [(60, [2, 4])], [], [], [], [], [], [(4, []), (30, [])], [(4, []), (22, [])], [(4, []), (24, [])], [], [], [(6, [2, 4]), (33, [2, 4]), (47, [2]), (83, [2, 4]), (118, [1, 2, 4]), (129, [2, 4]), (154, [2, 4])], [(15, [1, 2, 4])], [(141, []), (162, [])], [(34, [])], [], [], [], [], [], [], [], [(45, [1, 2, 3, 4, 5, 6, 7]), (95, [1, 2, 3, 4, 5, 6, 7]), (104, [7]), (129, [7])], [(44, [3])], [(34, [])], [], [], [], [(21, []), (53, [2])], [(0, [])], [], [], [], [(51, [2]), (77, [2])], [], [(55, [1]), (86, [1]), (174, [1])], [], [], [], [], [], [], [], [], [], [], [], [], [(15, [])], [(4, []), (40, [2]), (41, [2])], [], [], [], [], [], [], [], [(3, [])], [], [], [], [], [], [], [], [(139, []), (140, [])], [(45, [])], [], [], [], [(2, [3, 4, 5]), (29, [3, 4, 5]), (38, [3, 4, 5]), (46, [4, 5]), (57, [5]), (115, [5]), (121, [4, 5])], [(79, [2, 3, 4, 5, 6]), (80, [2, 3, 4, 5, 6])], [], [(27, [1])], [], [(7, [2])], [(4, [0])], [], [(32, [5, 6, 7, 8]), (56, [5, 6, 7, 8]), (60, [6, 7, 8]), (72, [7, 8]), (143, [7, 8]), (144, [7, 8]), (167, [7, 8]), (201, [1, 7, 8]), (227, [1]), (269, [1, 8])], [(28, [5]), (71, [5]), (75, [5]), (76, [5]), (106, [5]), (107, [3, 5])], [(4, []), (30, [2])], [(28, [5]), (71, [5]), (75, [5]), (76, [5]), (108, [5]), (109, [3, 5])], [], [(42, [3]), (86, [3, 4]), (123, [3, 5])], [(28, [4]), (104, [2, 4]), (105, [2, 4])], [(6, [7]), (95, [5, 7]), (96, [5, 7])], [(39, [3]), (83, [3, 4])], [(14, [1, 4, 5, 6]), (43, [1, 2, 4, 5, 6]), (66, [1, 2, 3])], [(2, [])], [(17, [4, 5]), (30, [5]), (83, [5]), (84, [5]), (97, [1]), (120, [5]), (121, [2, 5])], [(43, [5, 6]), (75, [5, 6]), (87, [3, 5, 6]), (95, [3, 6]), (136, [3, 6]), (137, [3, 6]), (173, [3, 6]), (180, [3, 6])], [(9, [4, 5, 6, 7, 8, 9, 10]), (19, [7, 8, 9, 10]), (50, [7, 8, 9, 10]), (55, [7, 8, 9, 10]), (93, [8, 9, 10]), (126, [8, 9, 10]), (156, [8, 10]), (160, [8, 10]), (161, [8, 10]), (178, [7, 8, 9, 10]), (180, [5, 7, 8, 9, 10])], [], [(21, [6, 8, 10, 11, 12]), (43, [6, 8, 10, 11, 12]), (70, [6, 8, 11]), (115, [6, 8, 10, 11]), (157, [5, 6, 8, 10, 11, 12]), (162, [6, 8, 10, 11, 12])], [(6, [2, 4, 6, 8, 9, 10])], [], [(56, [2, 4, 6]), (125, [2, 4, 6])], [], [], [], [], [(4, []), (36, [2]), (44, [3]), (46, []), (73, [2]), (81, [3]), (83, []), (109, [2]), (117, [3]), (119, []), (145, [2]), (153, [3])], [], [], [(6, [2, 4]), (33, [2, 4]), (44, [2]), (80, [2, 4]), (117, [1, 2, 4]), (128, [2, 4]), (151, [2]), (196, [2, 4]), (218, [2])], [(18, []), (1355, [])]]
