/-! every simple step -/
theorem any_fk {o i a b : Nat} (h : FK.any (fun q => q.1 == o && q.2.1 == i && q.2.2.1 == a && q.2.2.2.1 == b) = true) : Cond.fieldLink (nmC o) i (clT a b).1 (clT a b).2.1 (clT a b).2.2.1 ∈ lw_tbl ∧ a < 13 ∧ b < clN a := by
  obtain ⟨q, hq, h⟩ := List.any_eq_true.mp h
  simp only [Bool.and_eq_true, beq_iff_eq] at h
  obtain ⟨⟨⟨rfl, rfl⟩, rfl⟩, rfl⟩ := h
  have h2 := List.all_eq_true.mp fk_ok q hq
  unfold fkc at h2
  rw [Bool.and_eq_true] at h2
  exact ⟨lwAt_mem h2.1, of_decide_eq_true h2.2⟩
theorem any_mk {o i a b : Nat} (h : MK.any (fun q => q.1 == o && q.2.1 == i && q.2.2.1 == b && q.2.2.2.1 == a) = true) : ∃ q ∈ MK, q.1 = o ∧ q.2.1 = i ∧ q.2.2.1 = b ∧ q.2.2.2.1 = a ∧ mkc q = true := by
  obtain ⟨q, hq, h⟩ := List.any_eq_true.mp h
  simp only [Bool.and_eq_true, beq_iff_eq] at h
  exact ⟨q, hq, h.1.1.1, h.1.1.2, h.1.2, h.2, List.all_eq_true.mp mk_ok q hq⟩
theorem any_ck {o i a : Nat} (h : CK.any (fun q => q.1 == o && q.2.1 == i && q.2.2.1 == a) = true) : Cond.classLink (nmC o) i (nmC a) ∈ lw_tbl ∧ Cond.instantiable (nmC a) (clN a) ∈ lw_tbl ∧ a < 13 := by
  obtain ⟨q, hq, h⟩ := List.any_eq_true.mp h
  simp only [Bool.and_eq_true, beq_iff_eq] at h
  obtain ⟨⟨rfl, rfl⟩, rfl⟩ := h
  have h2 := List.all_eq_true.mp ck_ok q hq
  unfold ckc at h2
  simp only [Bool.and_eq_true] at h2
  exact ⟨lwAt_mem h2.1.1, lwAt_mem h2.1.2, (of_decide_eq_true h2.2).1⟩
theorem any_kk {o i : Nat} {v : Int} (h : KK.any (fun q => q.1 == o && q.2.1 == i && decide (q.2.2.1 = v)) = true) : Cond.constantLong (nmC o) i (Int64.ofInt v) ∈ lw_tbl ∧ iR v := by
  obtain ⟨q, hq, h⟩ := List.any_eq_true.mp h
  simp only [Bool.and_eq_true, beq_iff_eq, decide_eq_true_eq] at h
  obtain ⟨⟨rfl, rfl⟩, rfl⟩ := h
  have h2 := List.all_eq_true.mp kk_ok q hq
  unfold kkc at h2
  rw [Bool.and_eq_true] at h2
  exact ⟨lwAt_mem h2.1, of_decide_eq_true h2.2⟩

section SND2
variable {p : Program} {l : Launch} {e : Env} {s : State} {m : MethodId} {args : Array Value} {below : List Frame} {meth : Method} {c : Code} {H : Heap} {locs : List Loc} {Q : State → Prop} {k pc : Nat} {D : va_G} {S : List Shp} {μ : Mu} {ad : Nat → Nat} {cA : Nat → ClassId} {tys : List (ClassId × FieldType)} {A : Nat → Prop} {ls : Lo} {st : List PV} {lsR : Array Slot} {rc rs : Nat}
set_option maxHeartbeats 4000000 in
theorem stp_snd {en : En} {len pc' : Nat} {ls' : Lo} {st' : List PV} {M' : Mem} (h : Hyp p s m args meth c H locs k D S μ ad cA tys A ls st lsR rc rs) (hd : decode (mB k) pc = .ok (en.1, len)) (hok : okI k pc len en = true) (hs : stp en ls st (S, μ, rc, rs) = some (pc', ls', st', M')) (kk : Cn p l e s m args below meth c Q k D A S.length ad cA pc' ls' st' M') : W p l e (rmK k) s m args below meth c H locs (mC k - rc) (mS k - rs) Q (F0 m pc lsR (st.map (trV ad))) := by
  obtain ⟨ins, nx, cv, a, b, tg⟩ := en
  cases ins
  case iconst n =>
    unfold okI at hok
    dsimp only at hok
    simp only [Bool.and_eq_true, beq_iff_eq, decide_eq_true_eq] at hok
    unfold stp at hs
    dsimp only at hs
    obtain ⟨⟨rfl, rfl⟩, hv⟩ := hok
    simp only [Option.some.injEq, Prod.mk.injEq] at hs
    obtain ⟨rfl, rfl, rfl, rfl⟩ := hs
    exact sn_iconst h hd hv kk
  case bipush n =>
    unfold okI at hok
    dsimp only at hok
    simp only [Bool.and_eq_true, beq_iff_eq, decide_eq_true_eq] at hok
    unfold stp at hs
    dsimp only at hs
    obtain ⟨⟨rfl, rfl⟩, hv⟩ := hok
    simp only [Option.some.injEq, Prod.mk.injEq] at hs
    obtain ⟨rfl, rfl, rfl, rfl⟩ := hs
    exact sn_bipush h hd hv kk
  case sipush n =>
    unfold okI at hok
    dsimp only at hok
    simp only [Bool.and_eq_true, beq_iff_eq, decide_eq_true_eq] at hok
    unfold stp at hs
    dsimp only at hs
    obtain ⟨⟨rfl, rfl⟩, hv⟩ := hok
    simp only [Option.some.injEq, Prod.mk.injEq] at hs
    obtain ⟨rfl, rfl, rfl, rfl⟩ := hs
    exact sn_sipush h hd hv kk
  case lconst n =>
    unfold okI at hok
    dsimp only at hok
    simp only [Bool.and_eq_true, beq_iff_eq, decide_eq_true_eq] at hok
    unfold stp at hs
    dsimp only at hs
    obtain ⟨⟨rfl, rfl⟩, hv⟩ := hok
    simp only [Option.some.injEq, Prod.mk.injEq] at hs
    obtain ⟨rfl, rfl, rfl, rfl⟩ := hs
    exact sn_lconst h hd hv kk
  case ldc2_w i =>
    unfold okI at hok
    dsimp only at hok
    simp only [Bool.and_eq_true, beq_iff_eq, decide_eq_true_eq] at hok
    unfold stp at hs
    dsimp only at hs
    obtain ⟨⟨rfl, rfl⟩, hv⟩ := hok
    simp only [Option.some.injEq, Prod.mk.injEq] at hs
    obtain ⟨rfl, rfl, rfl, rfl⟩ := hs
    exact sn_ldc2 h hd (any_kk (by simpa using hv)) kk
  case iload i =>
    unfold okI at hok
    dsimp only at hok
    simp only [Bool.and_eq_true, beq_iff_eq, decide_eq_true_eq] at hok
    unfold stp at hs
    dsimp only at hs
    obtain ⟨⟨rfl, rfl⟩, rfl⟩ := hok
    split at hs
    · rename_i x hx
      simp only [Option.some.injEq, Prod.mk.injEq] at hs
      obtain ⟨rfl, rfl, rfl, rfl⟩ := hs
      exact sn_iload h hd hx kk
    · cases hs
  case iload_n i =>
    unfold okI at hok
    dsimp only at hok
    simp only [Bool.and_eq_true, beq_iff_eq, decide_eq_true_eq] at hok
    unfold stp at hs
    dsimp only at hs
    obtain ⟨⟨rfl, rfl⟩, rfl⟩ := hok
    split at hs
    · rename_i x hx
      simp only [Option.some.injEq, Prod.mk.injEq] at hs
      obtain ⟨rfl, rfl, rfl, rfl⟩ := hs
      exact sn_iload_n h hd hx kk
    · cases hs
  case lload i =>
    unfold okI at hok
    dsimp only at hok
    simp only [Bool.and_eq_true, beq_iff_eq, decide_eq_true_eq] at hok
    unfold stp at hs
    dsimp only at hs
    obtain ⟨⟨rfl, rfl⟩, rfl⟩ := hok
    split at hs
    · rename_i x hx
      simp only [Option.some.injEq, Prod.mk.injEq] at hs
      obtain ⟨rfl, rfl, rfl, rfl⟩ := hs
      exact sn_lload h hd hx kk
    · cases hs
  case lload_n i =>
    unfold okI at hok
    dsimp only at hok
    simp only [Bool.and_eq_true, beq_iff_eq, decide_eq_true_eq] at hok
    unfold stp at hs
    dsimp only at hs
    obtain ⟨⟨rfl, rfl⟩, rfl⟩ := hok
    split at hs
    · rename_i x hx
      simp only [Option.some.injEq, Prod.mk.injEq] at hs
      obtain ⟨rfl, rfl, rfl, rfl⟩ := hs
      exact sn_lload_n h hd hx kk
    · cases hs
  case aload i =>
    unfold okI at hok
    dsimp only at hok
    simp only [Bool.and_eq_true, beq_iff_eq, decide_eq_true_eq] at hok
    unfold stp at hs
    dsimp only at hs
    obtain ⟨⟨rfl, rfl⟩, rfl⟩ := hok
    split at hs
    · rename_i x hx
      simp only [Option.some.injEq, Prod.mk.injEq] at hs
      obtain ⟨rfl, rfl, rfl, rfl⟩ := hs
      exact sn_aload h hd hx kk
    · cases hs
  case aload_n i =>
    unfold okI at hok
    dsimp only at hok
    simp only [Bool.and_eq_true, beq_iff_eq, decide_eq_true_eq] at hok
    unfold stp at hs
    dsimp only at hs
    obtain ⟨⟨rfl, rfl⟩, rfl⟩ := hok
    split at hs
    · rename_i x hx
      simp only [Option.some.injEq, Prod.mk.injEq] at hs
      obtain ⟨rfl, rfl, rfl, rfl⟩ := hs
      exact sn_aload_n h hd hx kk
    · cases hs
  case istore i =>
    unfold okI at hok
    dsimp only at hok
    simp only [Bool.and_eq_true, beq_iff_eq, decide_eq_true_eq] at hok
    unfold stp at hs
    dsimp only at hs
    obtain ⟨⟨⟨⟨rfl, rfl⟩, rfl⟩, hi⟩, hk⟩ := hok
    split at hs
    · rename_i x st2
      simp only [Option.some.injEq, Prod.mk.injEq] at hs
      obtain ⟨rfl, rfl, rfl, rfl⟩ := hs
      exact sn_istore h hd hi hk kk
    · cases hs
  case istore_n i =>
    unfold okI at hok
    dsimp only at hok
    simp only [Bool.and_eq_true, beq_iff_eq, decide_eq_true_eq] at hok
    unfold stp at hs
    dsimp only at hs
    obtain ⟨⟨⟨⟨rfl, rfl⟩, rfl⟩, hi⟩, hk⟩ := hok
    split at hs
    · rename_i x st2
      simp only [Option.some.injEq, Prod.mk.injEq] at hs
      obtain ⟨rfl, rfl, rfl, rfl⟩ := hs
      exact sn_istore_n h hd hi hk kk
    · cases hs
  case iinc i n =>
    unfold okI at hok
    dsimp only at hok
    simp only [Bool.and_eq_true, beq_iff_eq, decide_eq_true_eq] at hok
    unfold stp at hs
    dsimp only at hs
    obtain ⟨⟨⟨⟨⟨rfl, rfl⟩, rfl⟩, hi⟩, hk⟩, hv⟩ := hok
    split at hs
    · rename_i x hx
      split at hs
      · rename_i hr
        simp only [Option.some.injEq, Prod.mk.injEq] at hs
        obtain ⟨rfl, rfl, rfl, rfl⟩ := hs
        exact sn_iinc h hd hi hk hv hx hr kk
      · cases hs
    · cases hs
  case iadd =>
    unfold okI at hok
    dsimp only at hok
    simp only [Bool.and_eq_true, beq_iff_eq, decide_eq_true_eq] at hok
    unfold stp at hs
    dsimp only at hs
    obtain ⟨rfl, rfl⟩ := hok
    split at hs
    · rename_i y x st2
      split at hs
      · rename_i hr
        simp only [Option.some.injEq, Prod.mk.injEq] at hs
        obtain ⟨rfl, rfl, rfl, rfl⟩ := hs
        exact sn_iadd h hd hr kk
      · cases hs
    · cases hs
  case isub =>
    unfold okI at hok
    dsimp only at hok
    simp only [Bool.and_eq_true, beq_iff_eq, decide_eq_true_eq] at hok
    unfold stp at hs
    dsimp only at hs
    obtain ⟨rfl, rfl⟩ := hok
    split at hs
    · rename_i y x st2
      split at hs
      · rename_i hr
        simp only [Option.some.injEq, Prod.mk.injEq] at hs
        obtain ⟨rfl, rfl, rfl, rfl⟩ := hs
        exact sn_isub h hd hr kk
      · cases hs
    · cases hs
  case imul =>
    unfold okI at hok
    dsimp only at hok
    simp only [Bool.and_eq_true, beq_iff_eq, decide_eq_true_eq] at hok
    unfold stp at hs
    dsimp only at hs
    obtain ⟨rfl, rfl⟩ := hok
    split at hs
    · rename_i y x st2
      split at hs
      · rename_i hr
        simp only [Option.some.injEq, Prod.mk.injEq] at hs
        obtain ⟨rfl, rfl, rfl, rfl⟩ := hs
        exact sn_imul h hd hr kk
      · cases hs
    · cases hs
  case idiv =>
    unfold okI at hok
    dsimp only at hok
    simp only [Bool.and_eq_true, beq_iff_eq, decide_eq_true_eq] at hok
    unfold stp at hs
    dsimp only at hs
    obtain ⟨rfl, rfl⟩ := hok
    split at hs
    · rename_i y x st2
      split at hs
      · rename_i hr
        simp only [Option.some.injEq, Prod.mk.injEq] at hs
        obtain ⟨rfl, rfl, rfl, rfl⟩ := hs
        exact sn_idiv h hd hr kk
      · cases hs
    · cases hs
  case irem =>
    unfold okI at hok
    dsimp only at hok
    simp only [Bool.and_eq_true, beq_iff_eq, decide_eq_true_eq] at hok
    unfold stp at hs
    dsimp only at hs
    obtain ⟨rfl, rfl⟩ := hok
    split at hs
    · rename_i y x st2
      split at hs
      · rename_i hr
        simp only [Option.some.injEq, Prod.mk.injEq] at hs
        obtain ⟨rfl, rfl, rfl, rfl⟩ := hs
        exact sn_irem h hd hr kk
      · cases hs
    · cases hs
  case ishl =>
    unfold okI at hok
    dsimp only at hok
    simp only [Bool.and_eq_true, beq_iff_eq, decide_eq_true_eq] at hok
    unfold stp at hs
    dsimp only at hs
    obtain ⟨rfl, rfl⟩ := hok
    split at hs
    · rename_i y x st2
      split at hs
      · rename_i hr
        simp only [Option.some.injEq, Prod.mk.injEq] at hs
        obtain ⟨rfl, rfl, rfl, rfl⟩ := hs
        exact sn_ishl h hd hr kk
      · cases hs
    · cases hs
  case ishr =>
    unfold okI at hok
    dsimp only at hok
    simp only [Bool.and_eq_true, beq_iff_eq, decide_eq_true_eq] at hok
    unfold stp at hs
    dsimp only at hs
    obtain ⟨rfl, rfl⟩ := hok
    split at hs
    · rename_i y x st2
      split at hs
      · rename_i hr
        simp only [Option.some.injEq, Prod.mk.injEq] at hs
        obtain ⟨rfl, rfl, rfl, rfl⟩ := hs
        exact sn_ishr h hd hr kk
      · cases hs
    · cases hs
  case iand =>
    unfold okI at hok
    dsimp only at hok
    simp only [Bool.and_eq_true, beq_iff_eq, decide_eq_true_eq] at hok
    unfold stp at hs
    dsimp only at hs
    obtain ⟨rfl, rfl⟩ := hok
    split at hs
    · rename_i y x st2
      split at hs
      · rename_i hr
        simp only [Option.some.injEq, Prod.mk.injEq] at hs
        obtain ⟨rfl, rfl, rfl, rfl⟩ := hs
        exact sn_iand h hd hr kk
      · cases hs
    · cases hs
  case ior =>
    unfold okI at hok
    dsimp only at hok
    simp only [Bool.and_eq_true, beq_iff_eq, decide_eq_true_eq] at hok
    unfold stp at hs
    dsimp only at hs
    obtain ⟨rfl, rfl⟩ := hok
    split at hs
    · rename_i y x st2
      split at hs
      · rename_i hr
        simp only [Option.some.injEq, Prod.mk.injEq] at hs
        obtain ⟨rfl, rfl, rfl, rfl⟩ := hs
        exact sn_ior h hd hr kk
      · cases hs
    · cases hs
  case ixor =>
    unfold okI at hok
    dsimp only at hok
    simp only [Bool.and_eq_true, beq_iff_eq, decide_eq_true_eq] at hok
    unfold stp at hs
    dsimp only at hs
    obtain ⟨rfl, rfl⟩ := hok
    split at hs
    · rename_i y x st2
      split at hs
      · rename_i hr
        simp only [Option.some.injEq, Prod.mk.injEq] at hs
        obtain ⟨rfl, rfl, rfl, rfl⟩ := hs
        exact sn_ixor h hd hr kk
      · cases hs
    · cases hs
  case i2l =>
    unfold okI at hok
    dsimp only at hok
    simp only [Bool.and_eq_true, beq_iff_eq, decide_eq_true_eq] at hok
    unfold stp at hs
    dsimp only at hs
    obtain ⟨rfl, rfl⟩ := hok
    split at hs
    · rename_i x st2
      simp only [Option.some.injEq, Prod.mk.injEq] at hs
      obtain ⟨rfl, rfl, rfl, rfl⟩ := hs
      exact sn_i2l h hd kk
    · cases hs
  case lcmp =>
    unfold okI at hok
    dsimp only at hok
    simp only [Bool.and_eq_true, beq_iff_eq, decide_eq_true_eq] at hok
    unfold stp at hs
    dsimp only at hs
    obtain ⟨rfl, rfl⟩ := hok
    split at hs
    · rename_i y x st2
      simp only [Option.some.injEq, Prod.mk.injEq] at hs
      obtain ⟨rfl, rfl, rfl, rfl⟩ := hs
      exact sn_lcmp h hd kk
    · cases hs
  case dup =>
    unfold okI at hok
    dsimp only at hok
    simp only [Bool.and_eq_true, beq_iff_eq, decide_eq_true_eq] at hok
    unfold stp at hs
    dsimp only at hs
    obtain ⟨rfl, rfl⟩ := hok
    split at hs
    · rename_i v st2
      split at hs
      · cases hs
      · rename_i hv
        simp only [Option.some.injEq, Prod.mk.injEq] at hs
        obtain ⟨rfl, rfl, rfl, rfl⟩ := hs
        exact sn_dup h hd (by simpa using hv) kk
    · cases hs
  case dup2 =>
    unfold okI at hok
    dsimp only at hok
    simp only [Bool.and_eq_true, beq_iff_eq, decide_eq_true_eq] at hok
    unfold stp at hs
    dsimp only at hs
    obtain ⟨rfl, rfl⟩ := hok
    split at hs
    · rename_i v w st2
      split at hs
      · cases hs
      · rename_i hv
        simp only [Bool.or_eq_true, not_or, Bool.not_eq_true] at hv
        simp only [Option.some.injEq, Prod.mk.injEq] at hs
        obtain ⟨rfl, rfl, rfl, rfl⟩ := hs
        exact sn_dup2 h hd hv.1 hv.2 kk
    · cases hs
  case goto off =>
    unfold okI at hok
    dsimp only at hok
    simp only [Bool.and_eq_true, beq_iff_eq, decide_eq_true_eq] at hok
    unfold stp at hs
    dsimp only at hs
    unfold tgc at hok
    obtain ⟨rfl, ht⟩ := hok
    simp only [Option.some.injEq, Prod.mk.injEq] at hs
    obtain ⟨rfl, rfl, rfl, rfl⟩ := hs
    exact sn_goto h hd (of_decide_eq_true ht) kk
  case if_icmp cd off =>
    unfold okI at hok
    dsimp only at hok
    simp only [Bool.and_eq_true, beq_iff_eq, decide_eq_true_eq] at hok
    unfold stp at hs
    dsimp only at hs
    unfold tgc at hok
    obtain ⟨⟨rfl, rfl⟩, ht⟩ := hok
    split at hs
    · rename_i y x st2
      simp only [Option.some.injEq, Prod.mk.injEq] at hs
      obtain ⟨rfl, rfl, rfl, rfl⟩ := hs
      exact sn_icmp h hd (of_decide_eq_true ht) kk
    · cases hs
  case ifCond cd off =>
    unfold okI at hok
    dsimp only at hok
    simp only [Bool.and_eq_true, beq_iff_eq, decide_eq_true_eq] at hok
    unfold stp at hs
    dsimp only at hs
    unfold tgc at hok
    obtain ⟨⟨rfl, rfl⟩, ht⟩ := hok
    split at hs
    · rename_i x st2
      simp only [Option.some.injEq, Prod.mk.injEq] at hs
      obtain ⟨rfl, rfl, rfl, rfl⟩ := hs
      exact sn_if h hd (of_decide_eq_true ht) kk
    · cases hs
  case tableswitch d lo hi offs =>
    unfold okI at hok
    dsimp only at hok
    simp only [Bool.and_eq_true, beq_iff_eq, decide_eq_true_eq] at hok
    unfold stp at hs
    dsimp only at hs
    unfold tgc at hok
    obtain ⟨⟨⟨h1, h2⟩, h3⟩, h4⟩ := hok
    split at hs
    · rename_i x st2
      simp only [Option.some.injEq, Prod.mk.injEq] at hs
      obtain ⟨rfl, rfl, rfl, rfl⟩ := hs
      refine sn_switch h hd (of_decide_eq_true h1) h2 h3 (fun j hj => ?_) kk
      have := List.all_eq_true.mp h4 j (List.mem_range.mpr hj)
      exact of_decide_eq_true this
    · cases hs
  case getfield i =>
    unfold okI at hok
    dsimp only at hok
    simp only [Bool.and_eq_true, beq_iff_eq, decide_eq_true_eq] at hok
    unfold stp at hs
    dsimp only at hs
    obtain ⟨⟨rfl, rfl⟩, hf⟩ := hok
    have hf := any_fk hf
    split at hs
    · rename_i q st2
      split at hs
      · rename_i ci fs hq
        split at hs
        · rename_i hci
          subst hci
          split at hs
          · rename_i hv
            simp only [Option.some.injEq, Prod.mk.injEq] at hs
            obtain ⟨rfl, rfl, rfl, rfl⟩ := hs
            exact sn_get h hd hf.1 hf.2.2 hq (Or.inl ⟨hv, rfl⟩) kk
          · rename_i z hv
            simp only [Option.some.injEq, Prod.mk.injEq] at hs
            obtain ⟨rfl, rfl, rfl, rfl⟩ := hs
            exact sn_get h hd hf.1 hf.2.2 hq (Or.inr ⟨z, hv, rfl⟩) kk
          · cases hs
        · cases hs
      · cases hs
    · cases hs
  case putfield i =>
    unfold okI at hok
    dsimp only at hok
    simp only [Bool.and_eq_true, beq_iff_eq, decide_eq_true_eq] at hok
    unfold stp at hs
    dsimp only at hs
    obtain ⟨⟨⟨rfl, rfl⟩, hf⟩, hfin⟩ := hok
    have hf := any_fk hf
    have hfin : (clT a b).2.2.2 = false ∨ (mZ k = 1 ∧ (clT a b).1 = nmC (mI k)) := by
      rcases Bool.or_eq_true _ _ |>.mp hfin with h1 | h1
      · exact Or.inl (by simpa using h1)
      · rw [Bool.and_eq_true] at h1
        exact Or.inr ⟨by simpa using h1.1, of_decide_eq_true h1.2⟩
    split at hs
    · rename_i x q st2
      split at hs
      · rename_i ci fs hq
        split at hs
        · rename_i hci
          subst hci
          split at hs
          · rename_i hv
            simp only [Option.some.injEq, Prod.mk.injEq] at hs
            obtain ⟨rfl, rfl, rfl, rfl⟩ := hs
            exact sn_putI h hd hf.1 hf.2.2 hfin hq hv kk
          · cases hs
        · cases hs
      · cases hs
    · rename_i z q st2
      split at hs
      · rename_i ci fs hq
        split at hs
        · rename_i hci
          subst hci
          split at hs
          · rename_i o hv
            simp only [Option.some.injEq, Prod.mk.injEq] at hs
            obtain ⟨rfl, rfl, rfl, rfl⟩ := hs
            exact sn_putR h hd hf.1 hf.2.2 hfin hq hv kk
          · cases hs
        · cases hs
      · cases hs
    · cases hs
  case iaload =>
    unfold okI at hok
    dsimp only at hok
    simp only [Bool.and_eq_true, beq_iff_eq, decide_eq_true_eq] at hok
    unfold stp at hs
    dsimp only at hs
    obtain ⟨rfl, rfl⟩ := hok
    split at hs
    · rename_i i q st2
      split at hs
      · rename_i n hq
        split at hs
        · rename_i hi
          simp only [Option.some.injEq, Prod.mk.injEq] at hs
          obtain ⟨rfl, rfl, rfl, rfl⟩ := hs
          exact sn_iald h hd hq hi kk
        · cases hs
      · cases hs
    · cases hs
  case baload =>
    unfold okI at hok
    dsimp only at hok
    simp only [Bool.and_eq_true, beq_iff_eq, decide_eq_true_eq] at hok
    unfold stp at hs
    dsimp only at hs
    obtain ⟨rfl, rfl⟩ := hok
    split at hs
    · rename_i i q st2
      split at hs
      · rename_i n hq
        split at hs
        · rename_i hi
          simp only [Option.some.injEq, Prod.mk.injEq] at hs
          obtain ⟨rfl, rfl, rfl, rfl⟩ := hs
          exact sn_bald h hd hq hi kk
        · cases hs
      · cases hs
    · cases hs
  case iastore =>
    unfold okI at hok
    dsimp only at hok
    simp only [Bool.and_eq_true, beq_iff_eq, decide_eq_true_eq] at hok
    unfold stp at hs
    dsimp only at hs
    obtain ⟨rfl, rfl⟩ := hok
    split at hs
    · rename_i x i q st2
      split at hs
      · rename_i n hq
        split at hs
        · rename_i hi
          simp only [Option.some.injEq, Prod.mk.injEq] at hs
          obtain ⟨rfl, rfl, rfl, rfl⟩ := hs
          exact sn_iast h hd hq hi kk
        · cases hs
      · cases hs
    · cases hs
  case bastore =>
    unfold okI at hok
    dsimp only at hok
    simp only [Bool.and_eq_true, beq_iff_eq, decide_eq_true_eq] at hok
    unfold stp at hs
    dsimp only at hs
    obtain ⟨rfl, rfl⟩ := hok
    split at hs
    · rename_i x i q st2
      split at hs
      · rename_i n hq
        split at hs
        · rename_i hi
          simp only [Option.some.injEq, Prod.mk.injEq] at hs
          obtain ⟨rfl, rfl, rfl, rfl⟩ := hs
          exact sn_bast h hd hq hi kk
        · cases hs
      · cases hs
    · cases hs
  case newarray t =>
    unfold okI at hok
    dsimp only at hok
    simp only [Bool.and_eq_true, beq_iff_eq, decide_eq_true_eq] at hok
    unfold stp at hs
    dsimp only at hs
    obtain ⟨⟨rfl, rfl⟩, ht⟩ := hok
    have ht : (t = .int ∧ (a == 1) = false) ∨ (t = .boolean ∧ (a == 1) = true) := by
      rcases Bool.or_eq_true _ _ |>.mp ht with h1 | h1
      · rw [Bool.and_eq_true] at h1
        refine Or.inl ⟨of_decide_eq_true h1.1, ?_⟩
        have := h1.2
        simp only [beq_iff_eq] at this
        rw [this]; rfl
      · rw [Bool.and_eq_true] at h1
        refine Or.inr ⟨of_decide_eq_true h1.1, ?_⟩
        have := h1.2
        simp only [beq_iff_eq] at this
        rw [this]; rfl
    split at hs
    · rename_i n st2
      split at hs
      · rename_i hn
        simp only [Option.some.injEq, Prod.mk.injEq] at hs
        obtain ⟨rfl, rfl, rfl, rfl⟩ := hs
        exact sn_newa h hd ht hn kk
      · cases hs
    · cases hs
  case new i =>
    unfold okI at hok
    dsimp only at hok
    simp only [Bool.and_eq_true, beq_iff_eq, decide_eq_true_eq] at hok
    unfold stp at hs
    dsimp only at hs
    obtain ⟨⟨rfl, rfl⟩, hc⟩ := hok
    have hc := any_ck hc
    split at hs
    · rename_i hn
      simp only [Option.some.injEq, Prod.mk.injEq] at hs
      obtain ⟨rfl, rfl, rfl, rfl⟩ := hs
      exact sn_new h hd hc.1 hc.2.1 hc.2.2 hn kk
    · cases hs
  case invokestatic i =>
    unfold okI at hok
    dsimp only at hok
    simp only [Bool.and_eq_true, beq_iff_eq, decide_eq_true_eq] at hok
    unfold stp at hs
    dsimp only at hs
    obtain ⟨⟨⟨rfl, rfl⟩, hm⟩, hR⟩ := hok
    obtain ⟨z, hz, hz1, hz2, hz3, hz4, hz5⟩ := any_mk hm
    split at hs
    · rename_i hb0
      subst hb0
      rw [if_pos rfl] at hR
      split at hs
      · rename_i y x st2
        split at hs
        · rename_i hl
          simp only [Option.some.injEq, Prod.mk.injEq] at hs
          obtain ⟨rfl, rfl, rfl, rfl⟩ := hs
          have hlk : Cond.methodLink (nmC (mI k)) i Lib.Math.max.name ∈ lw_tbl := by
            unfold mkc at hz5
            rw [hz3] at hz5
            have := lwAt_mem hz5
            rw [hz1, hz2] at this
            exact this
          exact sn_max h hd hlk (of_decide_eq_true hR) hl kk
        · cases hs
      · cases hs
    · split at hs
      · rename_i hb0 hb1
        subst hb1
        rw [if_neg (by decide), if_pos rfl] at hR
        split at hs
        · rename_i n dp q sp q0 st2
          split at hs
          · rename_i n0 n1 h0 h1
            split at hs
            · rename_i hq
              simp only [Option.some.injEq, Prod.mk.injEq] at hs
              obtain ⟨rfl, rfl, rfl, rfl⟩ := hs
              have hlk : Cond.methodLink (nmC (mI k)) i arraycopyName ∈ lw_tbl := by
                unfold mkc at hz5
                rw [hz3] at hz5
                have := lwAt_mem hz5
                rw [hz1, hz2] at this
                exact this
              exact sn_copy h hd hlk (of_decide_eq_true hR) h0 h1 hq.1 hq.2 kk
            · cases hs
          · cases hs
        · cases hs
      · cases hs
  case invokespecial i =>
    unfold okI at hok
    dsimp only at hok
    simp only [Bool.and_eq_true, beq_iff_eq, decide_eq_true_eq] at hok
    unfold stp at hs
    dsimp only at hs
    obtain ⟨⟨⟨rfl, rfl⟩, hm⟩, hR⟩ := hok
    obtain ⟨z, hz, hz1, hz2, hz3, hz4, hz5⟩ := any_mk hm
    split at hs
    · rename_i hb0
      subst hb0
      rw [if_pos rfl] at hR
      split at hs
      · rename_i q st2
        split at hs
        · rename_i hl
          subst hl
          simp only [Option.some.injEq, Prod.mk.injEq] at hs
          obtain ⟨rfl, rfl, rfl, rfl⟩ := hs
          have hlk : Cond.methodLink (nmC (mI k)) i Lib.objectInit ∈ lw_tbl := by
            unfold mkc at hz5
            rw [hz3] at hz5
            have := lwAt_mem hz5
            rw [hz1, hz2] at this
            exact this
          exact sn_obj h hd hlk (of_decide_eq_true hR) kk
        · cases hs
      · cases hs
    · cases hs
  all_goals (have hs2 : (none : Option (Nat × Lo × List PV × Mem)) = some (pc', ls', st', M') := hs; cases hs2)
end SND2
