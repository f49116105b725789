/-! ===== the law's loop ===== -/
/-- the script is not written by a call -/
def Ksc (o : Option (Int32 × Sx)) (I : I2) (L : Nat) : Prop := ∀ r I1 G1, o = some (r, mk I1 G1 L) → ∀ j, j < L → I1 1000 j = I 1000 j
theorem ksc_of {d mid : Nat} {ls : Lx} {I : I2} {G : G2} {L : Nat} {o : Option (Int32 × Sx)} (h : OkF wI (fun f => rk px kx f d mid 0 ls [] (mk I G L)) o) (hI : Inv I G) : Ksc o I L := by
  intro r I1 G1 e
  obtain ⟨f0, hf⟩ := h _ e
  have q := rk_mo px kx (f0 + 0) _ _ _ _ _ _ _ _ (hf 0)
  have hL : InvL I := hI.2.2.2.2.1
  exact (q.2 L (fun j => I 1000 j) ⟨Nat.le_refl _, rfl, fun _ _ => rfl, hL⟩).2.2.1
/-- goes on, and all holds -/
def Lst (L : Nat) (K : Sx → Option (Int32 × Sx)) (o : Option (Int32 × Sx)) : Prop := ∃ I G, Inv I G ∧ o = K (mk I G L)
theorem Lst.ite {L : Nat} {K : Sx → Option (Int32 × Sx)} {c : Prop} [Decidable c] {o1 o2 : Option (Int32 × Sx)} (h1 : c → Lst L K o1) (h2 : ¬ c → Lst L K o2) : Lst L K (if c then o1 else o2) := by
  by_cases h : c
  · rw [if_pos h]; exact h1 h
  · rw [if_neg h]; exact h2 h
theorem lw0 {L i : Nat} (h1 : i + 6 ≤ L) (h2 : L ≤ 384) {I : I2} {G : G2} (fC fM : Nat → Sx → Option (Int32 × Sx)) (ho : Eqo L (fC 0 ) (fM 81 ) I G) (hm : Ksc (fC 0  (mk I G L)) I L) (K : Sx → Option (Int32 × Sx)) : Lst L K (if oc (mk I G L) 0 11 = true then bq (fC 0 (mk I G L)) fun v T => if oc T 81 12 = true then bq (fM 81 T) fun w U => if v = w then K U else some ((0 : Int32), U) else none else none) := by
  obtain ⟨r, I1, G1, I2, G2, e1, e2, e3, _⟩ := ho 
  have o1 : oc (mk I G L) 0 11 = true := rfl
  have o2 : oc (mk I1 G1 L) 81 12 = true := rfl
  refine ⟨I2, G2, e3, ?_⟩
  simp only [al_1000, gi_mk, o1, o2, e1, e2, bq_some, ↓reduceIte]
theorem lw1 {L i : Nat} (h1 : i + 6 ≤ L) (h2 : L ≤ 384) {I : I2} {G : G2} (fC fM : Nat → Int32 → Sx → Option (Int32 × Sx)) (ho : ∀ x, Eqo L (fC 0 x) (fM 81 x) I G) (hm : ∀ x, Ksc (fC 0 x (mk I G L)) I L) (K : Sx → Option (Int32 × Sx)) : Lst L K (if inb (nI i + (1 : Int32)) (al (mk I G L) 1000) = true then if oc (mk I G L) 0 11 = true then bq (fC 0 (gi (mk I G L) 1000 (nI i + (1 : Int32)).toNatClampNeg) (mk I G L)) fun v T => if inb (nI i + (1 : Int32)) (al T 1000) = true then if oc T 81 12 = true then bq (fM 81 (gi T 1000 (nI i + (1 : Int32)).toNatClampNeg) T) fun w U => if v = w then K U else some ((0 : Int32), U) else none else none else none else none) := by
  have a1 : nI i + (1 : Int32) = nI (i + 1) := by rw [li_1, nI_add]
  have b1 : inb (nI (i + 1)) L = true := by rw [e_inb (by omega)]; exact decide_eq_true (by omega)
  have c1 : (nI (i + 1)).toNatClampNeg = i + 1 := e_clamp (by omega)
  obtain ⟨r, I1, G1, I2, G2, e1, e2, e3, _⟩ := ho (I 1000 (i + 1))
  have hs := hm _ _ _ _ e1
  have d1 : I1 1000 (i + 1) = I 1000 (i + 1) := hs _ (by omega)
  have o1 : oc (mk I G L) 0 11 = true := rfl
  have o2 : oc (mk I1 G1 L) 81 12 = true := rfl
  refine ⟨I2, G2, e3, ?_⟩
  simp only [a1, b1, c1, d1, al_1000, gi_mk, o1, o2, e1, e2, bq_some, ↓reduceIte]
theorem lw2 {L i : Nat} (h1 : i + 6 ≤ L) (h2 : L ≤ 384) {I : I2} {G : G2} (fC fM : Nat → Int32 → Int32 → Sx → Option (Int32 × Sx)) (ho : ∀ x y, Eqo L (fC 0 x y) (fM 81 x y) I G) (hm : ∀ x y, Ksc (fC 0 x y (mk I G L)) I L) (K : Sx → Option (Int32 × Sx)) : Lst L K (if inb (nI i + (1 : Int32)) (al (mk I G L) 1000) = true then if inb (nI i + (2 : Int32)) (al (mk I G L) 1000) = true then if oc (mk I G L) 0 11 = true then bq (fC 0 (gi (mk I G L) 1000 (nI i + (1 : Int32)).toNatClampNeg) (gi (mk I G L) 1000 (nI i + (2 : Int32)).toNatClampNeg) (mk I G L)) fun v T => if inb (nI i + (1 : Int32)) (al T 1000) = true then if inb (nI i + (2 : Int32)) (al T 1000) = true then if oc T 81 12 = true then bq (fM 81 (gi T 1000 (nI i + (1 : Int32)).toNatClampNeg) (gi T 1000 (nI i + (2 : Int32)).toNatClampNeg) T) fun w U => if v = w then K U else some ((0 : Int32), U) else none else none else none else none else none else none) := by
  have a1 : nI i + (1 : Int32) = nI (i + 1) := by rw [li_1, nI_add]
  have b1 : inb (nI (i + 1)) L = true := by rw [e_inb (by omega)]; exact decide_eq_true (by omega)
  have c1 : (nI (i + 1)).toNatClampNeg = i + 1 := e_clamp (by omega)
  have a2 : nI i + (2 : Int32) = nI (i + 2) := by rw [li_2, nI_add]
  have b2 : inb (nI (i + 2)) L = true := by rw [e_inb (by omega)]; exact decide_eq_true (by omega)
  have c2 : (nI (i + 2)).toNatClampNeg = i + 2 := e_clamp (by omega)
  obtain ⟨r, I1, G1, I2, G2, e1, e2, e3, _⟩ := ho (I 1000 (i + 1)) (I 1000 (i + 2))
  have hs := hm _ _ _ _ _ e1
  have d1 : I1 1000 (i + 1) = I 1000 (i + 1) := hs _ (by omega)
  have d2 : I1 1000 (i + 2) = I 1000 (i + 2) := hs _ (by omega)
  have o1 : oc (mk I G L) 0 11 = true := rfl
  have o2 : oc (mk I1 G1 L) 81 12 = true := rfl
  refine ⟨I2, G2, e3, ?_⟩
  simp only [a1, b1, c1, d1, a2, b2, c2, d2, al_1000, gi_mk, o1, o2, e1, e2, bq_some, ↓reduceIte]
theorem lw3 {L i : Nat} (h1 : i + 6 ≤ L) (h2 : L ≤ 384) {I : I2} {G : G2} (fC fM : Nat → Int32 → Int32 → Int32 → Sx → Option (Int32 × Sx)) (ho : ∀ x y z, Eqo L (fC 0 x y z) (fM 81 x y z) I G) (hm : ∀ x y z, Ksc (fC 0 x y z (mk I G L)) I L) (K : Sx → Option (Int32 × Sx)) : Lst L K (if inb (nI i + (1 : Int32)) (al (mk I G L) 1000) = true then if inb (nI i + (2 : Int32)) (al (mk I G L) 1000) = true then if inb (nI i + (3 : Int32)) (al (mk I G L) 1000) = true then if oc (mk I G L) 0 11 = true then bq (fC 0 (gi (mk I G L) 1000 (nI i + (1 : Int32)).toNatClampNeg) (gi (mk I G L) 1000 (nI i + (2 : Int32)).toNatClampNeg) (gi (mk I G L) 1000 (nI i + (3 : Int32)).toNatClampNeg) (mk I G L)) fun v T => if inb (nI i + (1 : Int32)) (al T 1000) = true then if inb (nI i + (2 : Int32)) (al T 1000) = true then if inb (nI i + (3 : Int32)) (al T 1000) = true then if oc T 81 12 = true then bq (fM 81 (gi T 1000 (nI i + (1 : Int32)).toNatClampNeg) (gi T 1000 (nI i + (2 : Int32)).toNatClampNeg) (gi T 1000 (nI i + (3 : Int32)).toNatClampNeg) T) fun w U => if v = w then K U else some ((0 : Int32), U) else none else none else none else none else none else none else none else none) := by
  have a1 : nI i + (1 : Int32) = nI (i + 1) := by rw [li_1, nI_add]
  have b1 : inb (nI (i + 1)) L = true := by rw [e_inb (by omega)]; exact decide_eq_true (by omega)
  have c1 : (nI (i + 1)).toNatClampNeg = i + 1 := e_clamp (by omega)
  have a2 : nI i + (2 : Int32) = nI (i + 2) := by rw [li_2, nI_add]
  have b2 : inb (nI (i + 2)) L = true := by rw [e_inb (by omega)]; exact decide_eq_true (by omega)
  have c2 : (nI (i + 2)).toNatClampNeg = i + 2 := e_clamp (by omega)
  have a3 : nI i + (3 : Int32) = nI (i + 3) := by rw [li_3, nI_add]
  have b3 : inb (nI (i + 3)) L = true := by rw [e_inb (by omega)]; exact decide_eq_true (by omega)
  have c3 : (nI (i + 3)).toNatClampNeg = i + 3 := e_clamp (by omega)
  obtain ⟨r, I1, G1, I2, G2, e1, e2, e3, _⟩ := ho (I 1000 (i + 1)) (I 1000 (i + 2)) (I 1000 (i + 3))
  have hs := hm _ _ _ _ _ _ e1
  have d1 : I1 1000 (i + 1) = I 1000 (i + 1) := hs _ (by omega)
  have d2 : I1 1000 (i + 2) = I 1000 (i + 2) := hs _ (by omega)
  have d3 : I1 1000 (i + 3) = I 1000 (i + 3) := hs _ (by omega)
  have o1 : oc (mk I G L) 0 11 = true := rfl
  have o2 : oc (mk I1 G1 L) 81 12 = true := rfl
  refine ⟨I2, G2, e3, ?_⟩
  simp only [a1, b1, c1, d1, a2, b2, c2, d2, a3, b3, c3, d3, al_1000, gi_mk, o1, o2, e1, e2, bq_some, ↓reduceIte]
theorem lw5 {L i : Nat} (h1 : i + 6 ≤ L) (h2 : L ≤ 384) {I : I2} {G : G2} (fC fM : Nat → Int32 → Int32 → Int32 → Int32 → Int32 → Sx → Option (Int32 × Sx)) (ho : ∀ x y z u v, Eqo L (fC 0 x y z u v) (fM 81 x y z u v) I G) (hm : ∀ x y z u v, Ksc (fC 0 x y z u v (mk I G L)) I L) (K : Sx → Option (Int32 × Sx)) : Lst L K (if inb (nI i + (1 : Int32)) (al (mk I G L) 1000) = true then if inb (nI i + (2 : Int32)) (al (mk I G L) 1000) = true then if inb (nI i + (3 : Int32)) (al (mk I G L) 1000) = true then if inb (nI i + (4 : Int32)) (al (mk I G L) 1000) = true then if inb (nI i + (5 : Int32)) (al (mk I G L) 1000) = true then if oc (mk I G L) 0 11 = true then bq (fC 0 (gi (mk I G L) 1000 (nI i + (1 : Int32)).toNatClampNeg) (gi (mk I G L) 1000 (nI i + (2 : Int32)).toNatClampNeg) (gi (mk I G L) 1000 (nI i + (3 : Int32)).toNatClampNeg) (gi (mk I G L) 1000 (nI i + (4 : Int32)).toNatClampNeg) (gi (mk I G L) 1000 (nI i + (5 : Int32)).toNatClampNeg) (mk I G L)) fun v T => if inb (nI i + (1 : Int32)) (al T 1000) = true then if inb (nI i + (2 : Int32)) (al T 1000) = true then if inb (nI i + (3 : Int32)) (al T 1000) = true then if inb (nI i + (4 : Int32)) (al T 1000) = true then if inb (nI i + (5 : Int32)) (al T 1000) = true then if oc T 81 12 = true then bq (fM 81 (gi T 1000 (nI i + (1 : Int32)).toNatClampNeg) (gi T 1000 (nI i + (2 : Int32)).toNatClampNeg) (gi T 1000 (nI i + (3 : Int32)).toNatClampNeg) (gi T 1000 (nI i + (4 : Int32)).toNatClampNeg) (gi T 1000 (nI i + (5 : Int32)).toNatClampNeg) T) fun w U => if v = w then K U else some ((0 : Int32), U) else none else none else none else none else none else none else none else none else none else none else none else none) := by
  have a1 : nI i + (1 : Int32) = nI (i + 1) := by rw [li_1, nI_add]
  have b1 : inb (nI (i + 1)) L = true := by rw [e_inb (by omega)]; exact decide_eq_true (by omega)
  have c1 : (nI (i + 1)).toNatClampNeg = i + 1 := e_clamp (by omega)
  have a2 : nI i + (2 : Int32) = nI (i + 2) := by rw [li_2, nI_add]
  have b2 : inb (nI (i + 2)) L = true := by rw [e_inb (by omega)]; exact decide_eq_true (by omega)
  have c2 : (nI (i + 2)).toNatClampNeg = i + 2 := e_clamp (by omega)
  have a3 : nI i + (3 : Int32) = nI (i + 3) := by rw [li_3, nI_add]
  have b3 : inb (nI (i + 3)) L = true := by rw [e_inb (by omega)]; exact decide_eq_true (by omega)
  have c3 : (nI (i + 3)).toNatClampNeg = i + 3 := e_clamp (by omega)
  have a4 : nI i + (4 : Int32) = nI (i + 4) := by rw [li_4, nI_add]
  have b4 : inb (nI (i + 4)) L = true := by rw [e_inb (by omega)]; exact decide_eq_true (by omega)
  have c4 : (nI (i + 4)).toNatClampNeg = i + 4 := e_clamp (by omega)
  have a5 : nI i + (5 : Int32) = nI (i + 5) := by rw [li_5, nI_add]
  have b5 : inb (nI (i + 5)) L = true := by rw [e_inb (by omega)]; exact decide_eq_true (by omega)
  have c5 : (nI (i + 5)).toNatClampNeg = i + 5 := e_clamp (by omega)
  obtain ⟨r, I1, G1, I2, G2, e1, e2, e3, _⟩ := ho (I 1000 (i + 1)) (I 1000 (i + 2)) (I 1000 (i + 3)) (I 1000 (i + 4)) (I 1000 (i + 5))
  have hs := hm _ _ _ _ _ _ _ _ e1
  have d1 : I1 1000 (i + 1) = I 1000 (i + 1) := hs _ (by omega)
  have d2 : I1 1000 (i + 2) = I 1000 (i + 2) := hs _ (by omega)
  have d3 : I1 1000 (i + 3) = I 1000 (i + 3) := hs _ (by omega)
  have d4 : I1 1000 (i + 4) = I 1000 (i + 4) := hs _ (by omega)
  have d5 : I1 1000 (i + 5) = I 1000 (i + 5) := hs _ (by omega)
  have o1 : oc (mk I G L) 0 11 = true := rfl
  have o2 : oc (mk I1 G1 L) 81 12 = true := rfl
  refine ⟨I2, G2, e3, ?_⟩
  simp only [a1, b1, c1, d1, a2, b2, c2, d2, a3, b3, c3, d3, a4, b4, c4, d4, a5, b5, c5, d5, al_1000, gi_mk, o1, o2, e1, e2, bq_some, ↓reduceIte]
theorem lwl {L : Nat} {I : I2} {G : G2} (h : Inv I G) (fC fM : Nat → Sx → Option (Int64 × Sx)) (ho : Eql L (fC 0) (fM 81) I G) (K : Sx → Option (Int32 × Sx)) : Lst L K (if oc (mk I G L) 0 11 = true then bq (fC 0 (mk I G L)) fun v T => if oc T 81 12 = true then bq (fM 81 T) fun w U => if lg_cmp v w = 0 then K U else some ((0 : Int32), U) else none else none) := by
  obtain ⟨r, e1, e2⟩ := ho
  have o1 : oc (mk I G L) 0 11 = true := rfl
  have o2 : oc (mk I G L) 81 12 = true := rfl
  have z : lg_cmp r r = 0 := by
    unfold lg_cmp
    simp
  refine ⟨I, G, h, ?_⟩
  simp only [o1, o2, e1, e2, bq_some, z, ↓reduceIte]
set_option maxRecDepth 100000 in
theorem law_step {L i : Nat} (h1 : i + 6 ≤ L) (h2 : L ≤ 384) {I : I2} {G : G2} (h : Inv I G) (k : Nat → Nat → Nat → Int32 → Sx → Option (Int32 × Sx)) : Lst L (b239_1355 k 1000 0 81 (nI i)) (b239_18 k 1000 0 81 (nI i) (mk I G L)) := by
  rw [f_b239_18]
  have b0 : inb (nI i) L = true := by rw [e_inb (by omega)]; exact decide_eq_true (by omega)
  have c0 : ¬ (Int32.ofNat (al (mk I G L) 1000) - (6 : Int32) < nI i) := by
    rw [al_1000, show Int32.ofNat L = nI L from rfl, li_6, e_sub (by omega), e_lt (by omega) (by omega)]
    omega
  rw [if_pos (show (Nat.beq 1000 1000 || isa (mk I G L) 1 1000) = true from rfl), if_neg c0, if_pos (show inb (nI i) (al (mk I G L) 1000) = true from b0)]
  refine Lst.ite (fun _ => lw2 h1 h2 m13 m148 (fun x y => o_row L I G h x y) (fun x y => ksc_of (om13 0 0 x y (mk I G L)) h) _) (fun _ => ?_)
  refine Lst.ite (fun _ => lw3 h1 h2 m18 m152 (fun x y z => o_lay L I G h x y z) (fun x y z => ksc_of (om18 0 0 x y z (mk I G L)) h) _) (fun _ => ?_)
  refine Lst.ite (fun _ => lw2 h1 h2 m22 m154 (fun x y => o_at L I G h x y) (fun x y => ksc_of (om22 0 0 x y (mk I G L)) h) _) (fun _ => ?_)
  refine Lst.ite (fun _ => lw1 h1 h2 m23 m155 (fun x => o_tear L I G h x) (fun x => ksc_of (om23 0 0 x (mk I G L)) h) _) (fun _ => ?_)
  refine Lst.ite (fun _ => lw5 h1 h2 m24 m156 (fun x y z u v => o_copy L I G h x y z u v) (fun x y z u v => ksc_of (om24 0 0 x y z u v (mk I G L)) h) _) (fun _ => ?_)
  refine Lst.ite (fun _ => lw1 h1 h2 m25 m157 (fun x => o_mean L I G h x) (fun x => ksc_of (om25 0 0 x (mk I G L)) h) _) (fun _ => ?_)
  refine Lst.ite (fun _ => lw2 h1 h2 m27 m158 (fun x y => o_text L I G h x y) (fun x y => ksc_of (om27 0 0 x y (mk I G L)) h) _) (fun _ => ?_)
  refine Lst.ite (fun _ => lw3 h1 h2 m29 m160 (fun x y z => o_put L I G h x y z) (fun x y z => ksc_of (om29 0 0 x y z (mk I G L)) h) _) (fun _ => ?_)
  refine Lst.ite (fun _ => lw1 h1 h2 m30 m161 (fun x => o_fault L I G h x) (fun x => ksc_of (om30 0 0 x (mk I G L)) h) _) (fun _ => ?_)
  refine Lst.ite (fun _ => lw1 h1 h2 m40 m169 (fun x => o_country L I G h x) (fun x => ksc_of (om40 0 0 x (mk I G L)) h) _) (fun _ => ?_)
  refine Lst.ite (fun _ => lw2 h1 h2 m42 m170 (fun x y => o_door L I G h x y) (fun x y => ksc_of (om42 0 0 x y (mk I G L)) h) _) (fun _ => ?_)
  refine Lst.ite (fun _ => lw2 h1 h2 m67 m181 (fun x y => o_mark L I G h x y) (fun x y => ksc_of (om67 0 0 x y (mk I G L)) h) _) (fun _ => ?_)
  refine Lst.ite (fun _ => lw0 h1 h2 m73 m187 (o_road L I G h) (ksc_of (om73 0 0 (mk I G L)) h) _) (fun _ => ?_)
  refine Lst.ite (fun _ => lw0 h1 h2 m78 m192 (o_stay L I G h) (ksc_of (om78 0 0 (mk I G L)) h) _) (fun _ => ?_)
  refine Lst.ite (fun _ => lw1 h1 h2 m79 m194 (fun x => o_go L I G h x) (fun x => ksc_of (om79 0 0 x (mk I G L)) h) _) (fun _ => ?_)
  refine Lst.ite (fun _ => lw1 h1 h2 m81 m197 (fun x => o_buy L I G h x) (fun x => ksc_of (om81 0 0 x (mk I G L)) h) _) (fun _ => ?_)
  refine Lst.ite (fun _ => lw1 h1 h2 m82 m198 (fun x => o_sell L I G h x) (fun x => ksc_of (om82 0 0 x (mk I G L)) h) _) (fun _ => ?_)
  refine Lst.ite (fun _ => lw1 h1 h2 m83 m199 (fun x => o_set L I G h x) (fun x => ksc_of (om83 0 0 x (mk I G L)) h) _) (fun _ => ?_)
  refine Lst.ite (fun _ => lw1 h1 h2 m84 m200 (fun x => o_undo L I G h x) (fun x => ksc_of (om84 0 0 x (mk I G L)) h) _) (fun _ => ?_)
  refine Lst.ite (fun _ => lw1 h1 h2 m86 m201 (fun x => o_keep L I G h x) (fun x => ksc_of (om86 0 0 x (mk I G L)) h) _) (fun _ => ?_)
  refine Lst.ite (fun _ => lw1 h1 h2 m88 m202 (fun x => o_on L I G h x) (fun x => ksc_of (om88 0 0 x (mk I G L)) h) _) (fun _ => ?_)
  refine Lst.ite (fun _ => lw1 h1 h2 m89 m203 (fun x => o_where L I G h x) (fun x => ksc_of (om89 0 0 x (mk I G L)) h) _) (fun _ => ?_)
  refine Lst.ite (fun _ => lw1 h1 h2 m97 m207 (fun x => o_soonest L I G h x) (fun x => ksc_of (om97 0 0 x (mk I G L)) h) _) (fun _ => ?_)
  refine Lst.ite (fun _ => lw2 h1 h2 m101 m212 (fun x y => o_way L I G h x y) (fun x y => ksc_of (om101 0 0 x y (mk I G L)) h) _) (fun _ => ?_)
  refine Lst.ite (fun _ => lw2 h1 h2 m109 m213 (fun x y => o_cheapest L I G h x y) (fun x y => ksc_of (om109 0 0 x y (mk I G L)) h) _) (fun _ => ?_)
  refine Lst.ite (fun _ => lw2 h1 h2 m112 m215 (fun x y => o_shut L I G h x y) (fun x y => ksc_of (om112 0 0 x y (mk I G L)) h) _) (fun _ => ?_)
  refine Lst.ite (fun _ => lw2 h1 h2 m113 m216 (fun x y => o_worth L I G h x y) (fun x y => ksc_of (om113 0 0 x y (mk I G L)) h) _) (fun _ => ?_)
  refine Lst.ite (fun _ => lw2 h1 h2 m114 m217 (fun x y => o_fits L I G h x y) (fun x y => ksc_of (om114 0 0 x y (mk I G L)) h) _) (fun _ => ?_)
  refine Lst.ite (fun _ => lw2 h1 h2 m117 m220 (fun x y => o_kinds L I G h x y) (fun x y => ksc_of (om117 0 0 x y (mk I G L)) h) _) (fun _ => ?_)
  refine Lst.ite (fun _ => lw1 h1 h2 m118 m221 (fun x => o_round L I G h x) (fun x => ksc_of (om118 0 0 x (mk I G L)) h) _) (fun _ => ?_)
  refine Lst.ite (fun _ => lw0 h1 h2 m120 m223 (o_faces L I G h) (ksc_of (om120 0 0 (mk I G L)) h) _) (fun _ => ?_)
  refine Lst.ite (fun _ => lw3 h1 h2 m122 m224 (fun x y z => o_chase L I G h x y z) (fun x y z => ksc_of (om122 0 0 x y z (mk I G L)) h) _) (fun _ => ?_)
  refine Lst.ite (fun _ => lw3 h1 h2 m128 m226 (fun x y z => o_odds L I G h x y z) (fun x y z => ksc_of (om128 0 0 x y z (mk I G L)) h) _) (fun _ => ?_)
  refine Lst.ite (fun _ => lw2 h1 h2 m133 m229 (fun x y => o_mid L I G h x y) (fun x y => ksc_of (om133 0 0 x y (mk I G L)) h) _) (fun _ => ?_)
  refine Lst.ite (fun _ => lw2 h1 h2 m134 m230 (fun x y => o_lots L I G h x y) (fun x y => ksc_of (om134 0 0 x y (mk I G L)) h) _) (fun _ => ?_)
  refine Lst.ite (fun _ => lw0 h1 h2 m136 m231 (o_asked L I G h) (ksc_of (om136 0 0 (mk I G L)) h) _) (fun _ => ?_)
  refine Lst.ite (fun _ => lwl h m137 m232 (o_upper L I G h) _) (fun _ => ?_)
  refine Lst.ite (fun _ => lwl h m138 m233 (o_lower L I G h) _) (fun _ => ?_)
  refine Lst.ite (fun _ => lw1 h1 h2 m139 m234 (fun x => o_count L I G h x) (fun x => ksc_of (om139 0 0 x (mk I G L)) h) _) (fun _ => ?_)
  refine Lst.ite (fun _ => lw0 h1 h2 m143 m236 (o_finding L I G h) (ksc_of (om143 0 0 (mk I G L)) h) _) (fun _ => ?_)
  refine Lst.ite (fun _ => lw1 h1 h2 m144 m237 (fun x => o_findings L I G h x) (fun x => ksc_of (om144 0 0 x (mk I G L)) h) _) (fun _ => ?_)
  refine Lst.ite (fun _ => lwl h m145 m238 (o_digest L I G h) _) (fun _ => ?_)
  exact ⟨I, G, h, rfl⟩
theorem law_end {L i : Nat} (h1 : L < i + 6) (h2 : L ≤ 384) (h3 : i ≤ 384) (I : I2) (G : G2) (k : Nat → Nat → Nat → Int32 → Sx → Option (Int32 × Sx)) : b239_18 k 1000 0 81 (nI i) (mk I G L) = some (1, mk I G L) := by
  rw [f_b239_18]
  have c0 : Int32.ofNat (al (mk I G L) 1000) - (6 : Int32) < nI i := by
    rw [al_1000, show Int32.ofNat L = nI L from rfl, li_6]
    by_cases q : L < 6
    · rw [e_subn q, e_nlt (by omega) (by omega) (by omega)]
      trivial
    · rw [e_sub (by omega), e_lt (by omega) (by omega)]
      omega
  rw [if_pos (show (Nat.beq 1000 1000 || isa (mk I G L) 1 1000) = true from rfl), if_pos c0]
theorem law_loop {L : Nat} (h2 : L ≤ 384) : ∀ (d i f : Nat) (I : I2) (G : G2), L - i ≤ d → i ≤ L → d < f → Inv I G → ∃ S1, l239_18 f 1000 0 81 (nI i) (mk I G L) = some (1, S1) := by
  intro d
  induction d with
  | zero =>
    intro i f I G h3 h4 h5 h
    obtain ⟨g, rfl⟩ : ∃ g, f = g + 1 := ⟨f - 1, by omega⟩
    exact ⟨_, law_end (by omega) h2 (by omega) I G (l239_18 g)⟩
  | succ d ih =>
    intro i f I G h3 h4 h5 h
    obtain ⟨g, rfl⟩ : ∃ g, f = g + 1 := ⟨f - 1, by omega⟩
    by_cases q : L < i + 6
    · exact ⟨_, law_end q h2 (by omega) I G (l239_18 g)⟩
    · obtain ⟨I1, G1, hi, e⟩ := law_step (i := i) (by omega) h2 h (l239_18 g)
      obtain ⟨S1, e1⟩ := ih (i + 6) g I1 G1 (by omega) (by omega) (by omega) hi
      refine ⟨S1, ?_⟩
      show b239_18 (l239_18 g) 1000 0 81 (nI i) (mk I G L) = _
      rw [e]
      show l239_18 g 1000 0 81 (nI i + 6) (mk I1 G1 L) = _
      rw [li_6, nI_add]
      exact e1
