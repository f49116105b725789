/-! ===== cells only come; the script and LETTERS stay ===== -/
theorem nb_spec {S : Sx} {t n : Nat} (h : nb S t n = true) : S.1 < 98 ∧ shp S.1 = (t, n) := by
  simp only [nb, Bool.and_eq_true] at h
  exact ⟨Nat.le_of_ble_eq_true h.1, Prod.ext (Nat.eq_of_beq_eq_true h.2.1) (Nat.eq_of_beq_eq_true h.2.2)⟩
theorem Gdx.sI {L : Nat} {xs : Nat → Int32} {S : Sx} (h : Gdx L xs S) {k j : Nat} {v : Int32} (hk : k < S.1) : Gdx L xs (sI S k j v) := by
  have := h.1
  refine ⟨h.1, h.2.1, fun i hi => ?_, fun i hi => ?_⟩
  · refine Eq.trans (congrFun (va_up_n (by omega)) i) (h.2.2.1 i hi)
  · refine Eq.trans (congrFun (va_up_n (by omega)) i) (h.2.2.2 i hi)
theorem Gdx.cp {L : Nat} {xs : Nat → Int32} {S : Sx} (h : Gdx L xs S) {k sp q dp n : Nat} (hk : q < S.1) : Gdx L xs (cpS S k sp q dp n) := by
  have := h.1
  refine ⟨h.1, h.2.1, fun i hi => ?_, fun i hi => ?_⟩
  · refine Eq.trans (congrFun (va_up_n (by omega)) i) (h.2.2.1 i hi)
  · refine Eq.trans (congrFun (va_up_n (by omega)) i) (h.2.2.2 i hi)
theorem Gdx.nw {L : Nat} {xs : Nat → Int32} {S : Sx} (h : Gdx L xs S) (hk : S.1 < 98) : Gdx L xs (nwS S) := by
  refine ⟨hk, h.2.1, fun i hi => ?_, fun i hi => ?_⟩
  · refine Eq.trans (congrFun (va_up_n (by omega)) i) (h.2.2.1 i hi)
  · refine Eq.trans (congrFun (va_up_n (by omega)) i) (h.2.2.2 i hi)
def Mox (S S1 : Sx) : Prop := S.1 ≤ S1.1 ∧ ∀ L xs, Gdx L xs S → Gdx L xs S1
def MoR (R : Rx) : Prop := ∀ d mid pc ls st S r S1, R d mid pc ls st S = some (r, S1) → Mox S S1
theorem cal_mo {P : List Mx} {R : Rx} (hR : MoR R) {d mid nx : Nat} {ls : Lx} {rest : List Value} {S S1 : Sx} {m : Nat} {as : List Value} {r : Option Value} (h : cal P R d mid nx ls rest S m as = some (r, S1)) : Mox S S1 := by
  unfold cal at h
  split at h
  · cases h
  · cases hc : (Nat.ble (rwd rest) 8 && Nat.ble (rwd as) (P.getD m dm).2.2.1) with
    | false => rw [hc] at h; cases h
    | true =>
      rw [hc] at h
      simp only [cond_true] at h
      obtain ⟨q, h1, h2⟩ := Option.bind_eq_some_iff.mp h
      have a1 := hR _ _ _ _ _ _ q.1 q.2 h1
      have a2 := hR _ _ _ _ _ _ _ _ h2
      exact ⟨Nat.le_trans a1.1 a2.1, fun L xs g => a2.2 L xs (a1.2 L xs g)⟩
theorem vcl_mo {P : List Mx} {R : Rx} (hR : MoR R) {d mid nx : Nat} {ls : Lx} {rest : List Value} {S S1 : Sx} {k : Nat} {as : List Value} {r : Option Value} : ∀ tab : List Nat, vcl P R d mid nx ls rest S k as tab = some (r, S1) → Mox S S1
  | [], h => by simp [vcl] at h
  | [_], h => by simp [vcl] at h
  | ci :: m :: t, h => by
    simp only [vcl] at h
    split at h
    · exact cal_mo hR h
    · exact vcl_mo hR t h
theorem swt_mo {S : Sx} {v : Int32} {z : Ox} {f : Nat → Ox} {x : Option Value × Sx} (hz : z = some x → Mox S x.2) (hf : ∀ t, f t = some x → Mox S x.2) : ∀ (ts : List Nat) (k : Nat), swt v k ts f z = some x → Mox S x.2
  | [], _, h => hz h
  | t :: ts, k, h => by
    simp only [swt] at h
    split at h
    · exact hf t h
    · exact swt_mo hz hf ts (k + 1) h
set_option maxHeartbeats 4000000 in
theorem stp_mo {P : List Mx} {R : Rx} (hR : MoR R) {d mid : Nat} {en : Ex} {ls : Lx} {st : List Value} {S S1 : Sx} {r : Option Value} (h : stp P R d mid en ls st S = some (r, S1)) : Mox S S1 := by
  obtain ⟨pc, ins, nx, a, c, w, x⟩ := en
  have same : ∀ {pc ls st}, R d mid pc ls st S = some (r, S1) → Mox S S1 := fun q => hR _ _ _ _ _ _ _ _ q
  have hsI : ∀ {pc ls st k j v}, k < S.1 → R d mid pc ls st (sI S k j v) = some (r, S1) → Mox S S1 := fun hk q => ⟨(hR _ _ _ _ _ _ _ _ q).1, fun L xs g => (hR _ _ _ _ _ _ _ _ q).2 L xs (g.sI hk)⟩
  have hsL : ∀ {pc ls st k j v}, R d mid pc ls st (sL S k j v) = some (r, S1) → Mox S S1 := fun q => ⟨(hR _ _ _ _ _ _ _ _ q).1, fun L xs g => (hR _ _ _ _ _ _ _ _ q).2 L xs g⟩
  have hsR : ∀ {pc ls st k j v}, R d mid pc ls st (sR S k j v) = some (r, S1) → Mox S S1 := fun q => ⟨(hR _ _ _ _ _ _ _ _ q).1, fun L xs g => (hR _ _ _ _ _ _ _ _ q).2 L xs g⟩
  have hcp : ∀ {pc ls st k sp q dp n}, q < S.1 → R d mid pc ls st (cpS S k sp q dp n) = some (r, S1) → Mox S S1 := fun hk q => ⟨(hR _ _ _ _ _ _ _ _ q).1, fun L xs g => (hR _ _ _ _ _ _ _ _ q).2 L xs (g.cp hk)⟩
  have hnw : ∀ {pc ls st}, S.1 < 98 → R d mid pc ls st (nwS S) = some (r, S1) → Mox S S1 := fun hk q => ⟨Nat.le_trans (Nat.le_succ _) (hR _ _ _ _ _ _ _ _ q).1, fun L xs g => (hR _ _ _ _ _ _ _ _ q).2 L xs (g.nw hk)⟩
  cases ins
  case iaload => simp only [stp] at h; (repeat' split at h) <;> first | exact same h | cases h
  case iastore =>
    simp only [stp] at h
    (repeat' split at h) <;> first | cases h; done | (rename_i g; exact hsI (aw_spec g).1 h)
  case bastore =>
    simp only [stp] at h
    (repeat' split at h) <;> first | cases h; done | (rename_i g; exact hsI (aw_spec g).1 h)
  case aastore => simp only [stp] at h; (repeat' split at h) <;> first | exact hsR h | cases h
  case putfield =>
    simp only [stp] at h
    (repeat' split at h) <;> first | exact hsL h | exact hsR h | (rename_i g; exact hsI (oc_spec g).1 h) | cases h
  case new =>
    simp only [stp] at h
    (repeat' split at h) <;> first | (rename_i g; exact hnw (nb_spec g).1 h) | cases h
  case newarray =>
    simp only [stp] at h
    (repeat' split at h) <;> first | (rename_i g; exact hnw (nb_spec (Bool.and_eq_true _ _ ▸ g).2).1 h) | cases h
  case anewarray =>
    simp only [stp] at h
    (repeat' split at h) <;> first | (rename_i g; exact hnw (nb_spec (Bool.and_eq_true _ _ ▸ g).2).1 h) | cases h
  case tableswitch =>
    simp only [stp] at h
    split at h
    · exact swt_mo (S := S) (fun q => hR _ _ _ _ _ _ _ _ q) (fun t q => hR _ _ _ _ _ _ _ _ q) _ _ h
    · cases h
  case invokestatic =>
    simp only [stp] at h
    split at h
    · split at h
      · split at h
        · cases h
        · rw [Bool.cond_eq_ite] at h
          split at h
          · split at h
            · rename_i g
              simp only [cpk, Bool.and_eq_true] at g
              exact hcp (isa_spec g.2.2.2.2.2.2).1 h
            · cases h
          · cases h
      · cases h
    · split at h
      · exact cal_mo hR h
      · cases h
    · cases h
  case invokevirtual =>
    simp only [stp] at h
    split at h
    · split at h
      · exact vcl_mo hR _ h
      · cases h
    · cases h
  case invokespecial =>
    simp only [stp] at h
    split at h
    · split at h
      · split at h
        · cases h
        · rw [Bool.cond_eq_ite] at h
          split at h
          · exact same h
          · cases h
      · cases h
    · split at h
      · exact cal_mo hR h
      · cases h
    · split at h
      · split at h
        · exact cal_mo hR h
        · cases h
      · cases h
    · cases h
  case istore =>
    simp only [stp] at h
    split at h
    · cases hc : (oks ls a && Nat.blt a ls.length) <;> rw [hc] at h <;> first | exact same h | cases h
    · cases h
  case istore_n =>
    simp only [stp] at h
    split at h
    · cases hc : (oks ls a && Nat.blt a ls.length) <;> rw [hc] at h <;> first | exact same h | cases h
    · cases h
  case astore =>
    simp only [stp] at h
    split at h
    · cases hc : (oks ls a && Nat.blt a ls.length) <;> rw [hc] at h <;> first | exact same h | cases h
    · cases h
  case astore_n =>
    simp only [stp] at h
    split at h
    · cases hc : (oks ls a && Nat.blt a ls.length) <;> rw [hc] at h <;> first | exact same h | cases h
    · cases h
  case lstore =>
    simp only [stp] at h
    split at h
    · cases hc : (oks ls a && Nat.blt (a + 1) ls.length) <;> rw [hc] at h <;> first | exact same h | cases h
    · cases h
  case lstore_n =>
    simp only [stp] at h
    split at h
    · cases hc : (oks ls a && Nat.blt (a + 1) ls.length) <;> rw [hc] at h <;> first | exact same h | cases h
    · cases h
  case iinc =>
    simp only [stp] at h
    split at h
    · cases hc : (oks ls a && Nat.blt a ls.length) <;> rw [hc] at h <;> first | exact same h | cases h
    · cases h
  case ireturn => simp only [stp] at h; (repeat' split at h) <;> first | (cases h; exact ⟨Nat.le_refl _, fun _ _ g => g⟩) | cases h
  case lreturn => simp only [stp] at h; (repeat' split at h) <;> first | (cases h; exact ⟨Nat.le_refl _, fun _ _ g => g⟩) | cases h
  case areturn => simp only [stp] at h; (repeat' split at h) <;> first | (cases h; exact ⟨Nat.le_refl _, fun _ _ g => g⟩) | cases h
  case return_ => simp only [stp] at h; (repeat' split at h) <;> first | (cases h; exact ⟨Nat.le_refl _, fun _ _ g => g⟩) | cases h
  all_goals first
    | (simp only [stp] at h; exact same h)
    | (simp [stp] at h; done)
    | (simp only [stp] at h; (repeat' split at h) <;> first | exact same h | cases h)
theorem rn_mo (P : List Mx) : ∀ f : Nat, MoR (rn P f)
  | 0 => fun d mid pc ls st S r S1 h => by simp [rn] at h
  | f + 1 => fun d mid pc ls st S r S1 h => by
    simp only [rn] at h
    split at h
    · cases h
    · exact stp_mo (rn_mo P f) h
theorem psz_mono {a b : Nat} (h : a ≤ b) : psz a ≤ psz b := by
  induction h with
  | refl => exact Nat.le_refl _
  | step _ ih => exact Nat.le_trans ih (Nat.le_add_right _ _)
