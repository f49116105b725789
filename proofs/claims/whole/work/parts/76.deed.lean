/-! ===== one deed more, on both sides ===== -/
theorem hist_congr {q : Cs} {v0 lg lg' : Nat → Nat} : ∀ {n : Nat}, (∀ d, d < n → lg d = lg' d) → hist q v0 lg n = hist q v0 lg' n
  | 0, _ => rfl
  | n + 1, h => by
    show stepv q (hist q v0 lg n) (lg n) = stepv q (hist q v0 lg' n) (lg' n)
    rw [hist_congr (fun d hd => h d (by omega)), h n (by omega)]
/-- what the class has written by a deed -/
def CStep (I I1 : I2) (c : Nat) (q : Cs) (v : Nat → Nat) (n e : Nat) : Prop := CS I1 c q (stepv q v e) ∧ I1 c 15 = nI (n + 1) ∧ I1 (c + 7) n = nI e ∧ ∀ k j, ¬ (k = c ∧ 11 ≤ j ∧ j ≤ 15) → k ≠ c + 3 → k ≠ c + 4 → ¬ (k = c + 7 ∧ j = n) → I1 k j = I k j
/-- what the reference has written by a deed -/
def MStep (I1 I' : I2) (q : Cs) (v : Nat → Nat) (n e : Nat) : Prop := MV I' 88 0 q (stepv q v e) ∧ I' 81 9 = nI (n + 1) ∧ (∀ k, ixD q.1 k → I' 89 (16 * n + k) = nI (v k)) ∧ ∀ k j, k ≠ 88 → ¬ (k = 89 ∧ 16 * n ≤ j ∧ j < 16 * n + 16) → ¬ (k = 81 ∧ j = 9) → I' k j = I1 k j
theorem CC.step {I I1 : I2} {c : Nat} {q : Cs} {v0 lg : Nat → Nat} {n e : Nat} (h : CC I c q v0 lg n) (hs : CStep I I1 c q (hist q v0 lg n) n e) : CC I1 c q v0 (vup lg n e) (n + 1) := by
  obtain ⟨s1, s2, s3, s4⟩ := hs
  obtain ⟨h1, ⟨b1, b2⟩, c1, c2⟩ := h
  have eh : hist q v0 (vup lg n e) n = hist q v0 lg n := hist_congr (fun d hd => vup_n (by omega))
  refine ⟨?_, ⟨?_, fun i hi => ⟨?_, ?_⟩⟩, s2, fun d hd => ?_⟩
  · show CS I1 c q (stepv q (hist q v0 (vup lg n e) n) (vup lg n e n))
    rw [eh, vup_s]; exact s1
  · rw [s4 _ _ (by omega) (by omega) (by omega) (by omega), b1]
  · rw [s4 _ _ (by omega) (by omega) (by omega) (by omega), (b2 i hi).1]
  · rw [s4 _ _ (by omega) (by omega) (by omega) (by omega), (b2 i hi).2]
  · by_cases ed : d = n
    · subst ed; rw [s3, vup_s]
    · rw [s4 _ _ (by omega) (by omega) (by omega) (by omega), c2 d (by omega), vup_n ed]
theorem okl.step {q : Cs} {v0 lg : Nat → Nat} {n e : Nat} (h : okl q v0 lg n) (hn : n < 40) (hD : 0 < q.1) (he : okd q (hist q v0 lg n) e) : okl q v0 (vup lg n e) (n + 1) := by
  refine ⟨by omega, fun h => by omega, fun d hd => ?_⟩
  by_cases ed : d = n
  · subst ed
    rw [vup_s, ← hist_congr (lg := lg) (fun d' hd' => (vup_n (by omega)).symm)]
    exact he
  · rw [vup_n ed, ← hist_congr (lg := lg) (fun d' hd' => (vup_n (by omega)).symm)]
    exact h.2.2 d (by omega)
theorem Now.step {I I1 I' : I2} {q : Cs} {v0 lg : Nat → Nat} {n e : Nat} (h : Now I q v0 lg n) (hq : q.1 ≤ 6) (hn : n < 40) (hD : 0 < q.1) (he : okd q (hist q v0 lg n) e) (hc : CStep I I1 10 q (hist q v0 lg n) n e) (hm : MStep I1 I' q (hist q v0 lg n) n e) : Now I' q v0 (vup lg n e) (n + 1) := by
  obtain ⟨h1, h2, ⟨m1, m2, m3⟩, h4, h5, h6⟩ := h
  have hcc := h2.step hc
  obtain ⟨s1, s2, s3, s4⟩ := hm
  obtain ⟨_, _, _, t4⟩ := hc
  have eh : ∀ d, d ≤ n → hist q v0 (vup lg n e) d = hist q v0 lg d := fun d hd => hist_congr (fun d' hd' => vup_n (by omega))
  have up : ∀ k j, 81 ≤ k → k ≠ 88 → ¬ (k = 89 ∧ 16 * n ≤ j ∧ j < 16 * n + 16) → ¬ (k = 81 ∧ j = 9) → I' k j = I k j := fun k j g1 g2 g3 g4 => (s4 k j g2 g3 g4).trans (t4 k j (by omega) (by omega) (by omega) (by omega))
  refine ⟨h1.step hn hD he, hcc.ag (fun k j g1 g2 => s4 k j (by omega) (by omega) (by omega)), ⟨?_, ?_, fun i hi => ⟨?_, ?_⟩⟩, ?_, fun d hd k hk => ?_, s2⟩
  · rw [up _ _ (by omega) (by omega) (by omega) (by omega), m1]
  · rw [up _ _ (by omega) (by omega) (by omega) (by omega), m2]
  · rw [up _ _ (by omega) (by omega) (by omega) (by omega), (m3 i hi).1]
  · rw [up _ _ (by omega) (by omega) (by omega) (by omega), (m3 i hi).2]
  · show MV I' 88 0 q (stepv q (hist q v0 (vup lg n e) n) (vup lg n e n))
    rw [eh n (by omega), vup_s]; exact s1
  · have hk16 : k < 16 := by unfold ixD at hk; omega
    by_cases ed : d = n
    · subst ed
      rw [Nat.zero_add, s3 k hk, eh d (by omega)]
    · rw [up _ _ (by omega) (by omega) (by omega) (by omega), h5 d (by omega) k hk, eh d (by omega)]
theorem Inv.deed {I I1 I' : I2} {G : G2} {q : Cs} {v0 lg : Nat → Nat} {n e : Nat} (h : Inv I G) (hq : okq q v0) (hN : Now I q v0 lg n) (hK : ∀ k, k < 3 → Kp I k q v0) (hn : n < 40) (hD : 0 < q.1) (he : okd q (hist q v0 lg n) e) (hc : CStep I I1 10 q (hist q v0 lg n) n e) (hm : MStep I1 I' q (hist q v0 lg n) n e) : Inv I' G ∧ ∀ j, I' 1000 j = I 1000 j := by
  have hNow := hN.step hq.le hn hD he hc hm
  obtain ⟨s1, s2, s3, s4⟩ := hm
  obtain ⟨_, _, _, t4⟩ := hc
  have up : ∀ k j, ¬ (10 ≤ k ∧ k ≤ 17) → k ≠ 88 → k ≠ 89 → ¬ (k = 81 ∧ j = 9) → I' k j = I k j := fun k j g1 g2 g3 g4 => (s4 k j g2 (by omega) g4).trans (t4 k j (by omega) (by omega) (by omega) (by omega))
  obtain ⟨hR, hT, hF, hA, hL, hC⟩ := h
  refine ⟨⟨hR.ag ?_, hT.ag ?_, hF.ag ?_, hA.ag ?_, hL.ag ?_, q, v0, hq, ⟨_, _, hNow⟩, fun k hk => (hK k hk).ag hk hq.le ?_⟩, fun j => up _ _ (by omega) (by omega) (by omega) (by omega)⟩
  · intro k j g; unfold PR at g; exact up _ _ (by omega) (by omega) (by omega) (by omega)
  · intro k j g; unfold PT at g; exact up _ _ (by omega) (by omega) (by omega) (by omega)
  · intro k j g; unfold PF at g; exact up _ _ (by omega) (by omega) (by omega) (by omega)
  · intro k j g; unfold PA at g; exact up _ _ (by omega) (by omega) (by omega) (by omega)
  · intro k j g; unfold PL at g; exact up _ _ (by omega) (by omega) (by omega) (by omega)
  · intro k' j g; exact up _ _ (by omega) (by omega) (by omega) (by omega)
/-- the reference's memory of the state before -/
def Km (I : I2) (n : Nat) : I2 := w2 (cp2 I 88 0 89 (16 * n) 16) 81 9 (nI (n + 1))
theorem Km_ne {I : I2} {n k j : Nat} (h1 : ¬ (k = 89 ∧ 16 * n ≤ j ∧ j < 16 * n + 16)) (h2 : ¬ (k = 81 ∧ j = 9)) : Km I n k j = I k j := by
  unfold Km
  rw [w2_ne _ h2, cp2_ne _ h1]
theorem Km_in {I : I2} {n k : Nat} (h : k < 16) : Km I n 89 (16 * n + k) = I 88 k := by
  unfold Km
  rw [w2_ne _ (by omega), cp2_in _ (by omega)]
  congr 1; omega
theorem Km_9 {I : I2} {n : Nat} : Km I n 81 9 = nI (n + 1) := by
  unfold Km
  rw [w2_s]
theorem g_190 {ω : Type} (f : Sx → Option ω) {n : Nat} (I : I2) (G : G2) (L : Nat) (hn : n < 40) (h9 : I 81 9 = nI n) : (m190 81 (mk I G L)).bind f = f (mk (Km I n) G L) := by
  rw [p_190 I G L hn h9]; rfl
theorem Km_MS {I : I2} {q : Cs} {n : Nat} (h : MS I q) : MS (Km I n) q := by
  refine ⟨?_, ?_, fun i hi => ⟨?_, ?_⟩⟩
  · rw [Km_ne (by omega) (by omega), h.1]
  · rw [Km_ne (by omega) (by omega), h.2.1]
  · rw [Km_ne (by omega) (by omega), (h.2.2 i hi).1]
  · rw [Km_ne (by omega) (by omega), (h.2.2 i hi).2]
theorem Km_MV {I : I2} {q : Cs} {v : Nat → Nat} {n : Nat} (h : MV I 88 0 q v) : MV (Km I n) 88 0 q v := fun k hk => by rw [Km_ne (by omega) (by omega), h k hk]
/-- from the memory on, the reference's state alone is changed -/
theorem MStep.of {I1 I' : I2} {q : Cs} {v : Nat → Nat} {n e : Nat} (hq : q.1 ≤ 6) (hV : MV I1 88 0 q v) (h1 : MV I' 88 0 q (stepv q v e)) (h2 : ∀ k j, k ≠ 88 → I' k j = Km I1 n k j) : MStep I1 I' q v n e := by
  refine ⟨h1, ?_, fun k hk => ?_, fun k j g1 g2 g3 => ?_⟩
  · rw [h2 _ _ (by omega), Km_9]
  · have hk16 : k < 16 := by unfold ixD at hk; omega
    have := hV k hk
    rw [Nat.zero_add] at this
    rw [h2 _ _ (by omega), Km_in hk16, this]
  · rw [h2 _ _ g1, Km_ne g2 g3]
