/-! ===== the whole run ===== -/
theorem w_int : Cond.arrayClass .int ∈ tbx := by decide +kernel
theorem w_boo : Cond.arrayClass .boolean ∈ tbx := by decide +kernel
theorem w_ao3 : Cond.arrayOver (.object "DoorSold$Row") ∈ tbx := by decide +kernel
theorem w_ao4 : Cond.arrayOver (.object "DoorSold$Kind") ∈ tbx := by decide +kernel
theorem w_ao5 : Cond.arrayOver (.object "DoorSold$Country") ∈ tbx := by decide +kernel
theorem w_ao : ∀ t, 3 ≤ t → t ≤ 5 → Cond.arrayOver (.object (enx t)) ∈ tbx := by
  intro t h3 h5
  rcases (show t = 3 ∨ t = 4 ∨ t = 5 by omega) with rfl | rfl | rfl
  · exact w_ao3
  · exact w_ao4
  · exact w_ao5
theorem w_sys : Cond.initialized "java/lang/System" ∈ tbx := by decide +kernel
theorem w_obj : Cond.code objectInit ⟨#[0xb1]⟩ 1 none ∈ tbx := by decide +kernel
set_option maxHeartbeats 4000000 in
theorem s_step {l : Launch} {R : Rx} {d mid : Nat} {en : Ex} {ls : Lx} {st : List Value} {S S1 : Sx} {r : Option Value} (hMo : MoR R) (hR : HRx l R) (hok : ckx (mtx mid) en = true) (hnd : ∀ v ∈ ndx (mtx mid) en, v ∈ lw_tbl) (h : stp px R d mid en ls st S = some (r, S1)) : Simx l d mid en.1 ls st S r S1 := by
  obtain ⟨pc, ins, nx, a, c0, w, x⟩ := en
  cases ins
  case iconst => exact s_iconst hok hnd hR h
  case bipush => exact s_bipush hok hnd hR h
  case sipush => exact s_sipush hok hnd hR h
  case lconst => exact s_lconst hok hnd hR h
  case ldc => exact s_ldc hok hnd hR h
  case ldc_w => exact s_ldc_w hok hnd hR h
  case ldc2_w => exact s_ldc2_w hok hnd hR h
  case iload => exact s_iload hok hnd hR h
  case iload_n => exact s_iload_n hok hnd hR h
  case lload => exact s_lload hok hnd hR h
  case lload_n => exact s_lload_n hok hnd hR h
  case aload => exact s_aload hok hnd hR h
  case aload_n => exact s_aload_n hok hnd hR h
  case istore => exact s_istore hok hnd hR h
  case istore_n => exact s_istore_n hok hnd hR h
  case lstore => exact s_lstore hok hnd hR h
  case lstore_n => exact s_lstore_n hok hnd hR h
  case astore => exact s_astore hok hnd hR h
  case astore_n => exact s_astore_n hok hnd hR h
  case iinc => exact s_iinc hok hnd hR h
  case iadd => exact s_iadd hok hnd hR h
  case isub => exact s_isub hok hnd hR h
  case imul => exact s_imul hok hnd hR h
  case idiv => exact s_idiv hok hnd hR h
  case irem => exact s_irem hok hnd hR h
  case ineg => exact s_ineg hok hnd hR h
  case iand => exact s_iand hok hnd hR h
  case ior => exact s_ior hok hnd hR h
  case ixor => exact s_ixor hok hnd hR h
  case ishl => exact s_ishl hok hnd hR h
  case ishr => exact s_ishr hok hnd hR h
  case iushr => exact s_iushr hok hnd hR h
  case i2l => exact s_i2l hok hnd hR h
  case l2i => exact s_l2i hok hnd hR h
  case i2b => exact s_i2b hok hnd hR h
  case ladd => exact s_ladd hok hnd hR h
  case lmul => exact s_lmul hok hnd hR h
  case ldiv => exact s_ldiv hok hnd hR h
  case lrem => exact s_lrem hok hnd hR h
  case lcmp => exact s_lcmp hok hnd hR h
  case dup => exact s_dup hok hnd hR h
  case dup2 => exact s_dup2 hok hnd hR h
  case goto => exact s_goto hok hnd hR h
  case ifCond q off =>
    cases q
    · exact s_if_eq hok hnd hR h
    · exact s_if_ne hok hnd hR h
    · exact s_if_lt hok hnd hR h
    · exact s_if_ge hok hnd hR h
    · exact s_if_gt hok hnd hR h
    · exact s_if_le hok hnd hR h
  case if_icmp q off =>
    cases q
    · exact s_icmp_eq hok hnd hR h
    · exact s_icmp_ne hok hnd hR h
    · exact s_icmp_lt hok hnd hR h
    · exact s_icmp_ge hok hnd hR h
    · exact s_icmp_gt hok hnd hR h
    · exact s_icmp_le hok hnd hR h
  case getfield => exact s_getfield hok hnd hR h
  case putfield => exact s_putfield hok hnd hR h
  case iaload => exact s_iaload hok hR h
  case iastore => exact s_iastore hok hR h
  case baload => exact s_baload hok hR h
  case bastore => exact s_bastore hok hR h
  case aaload => exact s_aaload hok hR h
  case aastore => exact s_aastore hok hR h
  case arraylength => exact s_arraylength hok hR h
  case new => exact s_new hMo hok hnd hR h
  case newarray => exact s_newarray hMo w_int w_boo hok hR h
  case anewarray => exact s_anewarray hMo w_ao hok hnd hR h
  case instanceof => exact s_instanceof hok hnd hR h
  case getstatic => exact s_getstatic hok hnd hR h
  case tableswitch => exact s_tableswitch hok hR h
  case ireturn => exact s_ireturn hok h
  case lreturn => exact s_lreturn hok h
  case areturn => exact s_areturn hok h
  case return_ => exact s_return hok h
  case invokestatic n =>
    have hk : ((match (generalizing := false) x with | [5] => true | [0, q] => pln (mtx a).1 q | _ => false) && Nat.beq nx (pc + 3)) = true := (and_s hok).2
    have hk := (and_s hk).1
    split at hk
    · exact s_arraycopy w_sys hok hnd hR h
    · exact s_static hMo hok hnd hR h
    · cases hk
  case invokevirtual n =>
    have hk : ((match (generalizing := false) x with
      | [n, ci, k] => decide ((mtx k).1.cls = (dvc ci).1) && pln (mtx k).1 n
      | [n, 6, k1, 5, k2, 0, k3, 1, k4, 9, k5, 2, k6] => decide ((mtx k1).1.cls = "DoorSold$Kind") && (pln (mtx k1).1 n && [k2, k3, k4, k5, k6].all fun k => decide ((mtx k).1.name = (mtx k1).1.name ∧ (mtx k).1.desc = (mtx k1).1.desc))
      | _ => false) && Nat.beq nx (pc + 3)) = true := (and_s hok).2
    have hk := (and_s hk).1
    split at hk
    · exact s_virt1 hMo hok hnd hR h
    · exact s_virt6 hMo hok hnd hR h
    · cases hk
  case invokespecial n =>
    have hk : ((match (generalizing := false) x with
      | [3] => true
      | [2, n] => decide ((mtx a).1.name = "<init>") && (decide ((mtx a).2.2.2.1 = none) && pln (mtx a).1 n)
      | [6, n] => decide ((mtx a).1.name = "<init>") && (decide ((mtx a).2.2.2.1 = none) && pln (mtx a).1 n)
      | [4, n, ci] => decide ((dvc ci).1 = (mtx mid).1.cls) && (!(decide ((mtx a).1.name = "<init>")) && pln (mtx a).1 n)
      | [7, n, ci] => decide ((dvc ci).1 = (mtx mid).1.cls) && (!(decide ((mtx a).1.name = "<init>")) && pln (mtx a).1 n)
      | _ => false) && Nat.beq nx (pc + 3)) = true := (and_s hok).2
    have hk := (and_s hk).1
    split at hk
    · exact s_objinit w_obj hok hnd hR h
    · exact s_init hMo hok hnd hR h
    · exact s_initN hMo hok hnd hR h
    · exact s_super hMo hok hnd hR h
    · exact s_super7 hMo hok hnd hR h
    · cases hk
  all_goals exact absurd h (by intro h; cases h)
theorem fnd_spec : ∀ (c : List Ex) (pc : Nat) (e : Ex), fnd c pc = some e → e ∈ c ∧ e.1 = pc
  | [], pc, e, h => by cases h
  | e0 :: t, pc, e, h => by
    have h : (bif Nat.beq e0.1 pc then some e0 else fnd t pc) = some e := h
    cases hb : Nat.beq e0.1 pc with
    | true =>
      rw [hb] at h
      cases h
      exact ⟨List.mem_cons_self, beq_s hb⟩
    | false =>
      rw [hb] at h
      obtain ⟨h1, h2⟩ := fnd_spec t pc e h
      exact ⟨List.mem_cons_of_mem _ h1, h2⟩
theorem mtx_in (k : Nat) : mtx k ∈ px ∨ mtx k = dm := by
  unfold mtx
  rw [List.getD_eq_getElem?_getD]
  cases h : px[k]? with
  | none => exact Or.inr rfl
  | some m => exact Or.inl (List.mem_of_getElem? h)
/-- every run of the abstract machine is a run of the machine -/
theorem sim (l : Launch) (hpx : ∀ m ∈ px, okm m) : ∀ f : Nat, HRx l (rn px f)
  | 0 => fun d mid pc ls st S r S1 h => by cases h
  | f + 1 => fun d mid pc ls st S r S1 h => by
    have h3 : (match fnd (mtx mid).2.2.2.2 pc with | none => none | some e => stp px (rn px f) d mid e ls st S) = some (r, S1) := h
    clear h
    split at h3
    · cases h3
    · rename_i e he
      obtain ⟨h1, h2⟩ := fnd_spec _ _ _ he
      subst h2
      have hok : okm (mtx mid) := by
        rcases mtx_in mid with q | q
        · exact hpx _ q
        · rw [q] at h1
          cases h1
      exact s_step (rn_mo px f) (sim l hpx f) (hok e h1).1 (hok e h1).2 h3
