/-! calls: a method's contract out of its run on the pure machine -/
def PcM (D : va_G) (S : List Shp) (μ : Mu) (ad : Nat → Nat) (cA : Nat → ClassId) (tys : List (ClassId × FieldType)) (sz : Nat) (As : List PV) : Array Value → State → Prop := va_Pc (As.map (trV ad)) (fun U => U.heap.size = sz ∧ Wo D S μ ad cA tys (fun _ => True) U U.heap ∧ NWs U)
def QcM (D : va_G) (S : List Shp) (μ : Mu) (ad : Nat → Nat) (cA : Nat → ClassId) (sz : Nat) (r : Option PV) (M' : Mem) : Array Value → State → Outcome → State → Prop := fun _ st oc t =>
  (∃ (ad' : Nat → Nat) (cA' : Nat → ClassId) (tys' : List (ClassId × FieldType)), (∀ x, x < S.length → ad' x = ad x ∧ cA' x = cA x) ∧ S.length ≤ M'.1.length ∧ oc = .returned (r.map (trV ad')) ∧ Wo D M'.1 M'.2.1 ad' cA' tys' (va_A (mkW S μ ad cA) sz) t t.heap ∧ (∀ v, r = some v → okV M'.1.length v)) ∧ va_F (va_A (mkW S μ ad cA) sz) st t
theorem PcM.blind {D : va_G} {S : List Shp} {μ : Mu} {ad : Nat → Nat} {cA : Nat → ClassId} {tys : List (ClassId × FieldType)} {sz : Nat} {As : List PV} : FrameBlind (PcM D S μ ad cA tys sz As) := fun a U g mk q => by
  obtain ⟨q0, q1, qW, qN⟩ := q
  exact ⟨q0, q1, ⟨va_K.moved (u := U) (U := U.calling g mk a) (Vm.Alike.refl U.vm) qW.1, qW.2⟩, NWs.same rfl qN⟩
def Snd (f : Nat) : Prop := ∀ (k pc : Nat) (ls : Lo) (st : List PV) (S : List Shp) (μ : Mu) (rc rs : Nat) (r : Option PV) (M' : Mem), exec f k pc ls st (S, μ, rc, rs) = some (r, M') →
  ∀ {p : Program} {l : Launch} {e : Env} {s : State} {m : MethodId} {args : Array Value} {below : List Frame} {meth : Method} {c : Code} {H : Heap} {locs : List Loc} {D : va_G} {ad : Nat → Nat} {cA : Nat → ClassId} {tys : List (ClassId × FieldType)} {A : Nat → Prop} {lsR : Array Slot} {Qc : Array Value → State → Outcome → State → Prop} {free : Addr → Prop},
    Hyp p s m args meth c H locs k D S μ ad cA tys A ls st lsR rc rs → (∀ q, A q → free q) →
    (∀ (ad' : Nat → Nat) (cA' : Nat → ClassId) (tys' : List (ClassId × FieldType)) (H' : Heap) (locs' : List Loc), (∀ x, x < S.length → ad' x = ad x ∧ cA' x = cA x) → S.length ≤ M'.1.length → Wo D M'.1 M'.2.1 ad' cA' tys' A s H' → va_S A s.heap H' locs' → (∀ v, r = some v → okV M'.1.length v) → ∀ t : State, t.heap = H' → s.WarmedH t.vm → Qc args s (.returned (r.map (trV ad'))) t) →
    W p l e (rmK k) s m args below meth c H locs (mC k - rc) (mS k - rs) (MQ below Qc args s (mC k) (mS k) free) (F0 m pc lsR (st.map (trV ad)))
theorem mw_all {k : Nat} (hk : k < 164) : mwc k = true := by
  by_cases h1 : k < 60
  · exact List.all_eq_true.mp mw_ok1 k (List.mem_range.mpr h1)
  · by_cases h2 : k < 120
    · exact List.all_eq_true.mp mw_ok2 k (List.mem_map.mpr ⟨k - 60, List.mem_range.mpr (by omega), by omega⟩)
    · exact List.all_eq_true.mp mw_ok3 k (List.mem_map.mpr ⟨k - 120, List.mem_range.mpr (by omega), by omega⟩)
theorem mw_spec {k : Nat} (hk : k < 164) : (mZ k = 2 → Cond.static (mY k) ∈ lw_tbl) ∧ (mZ k ≠ 2 → Cond.instanceMethod (mY k) ∈ lw_tbl) ∧ (mZ k = 0 → Cond.selects (nmC (mI k)) (mY k) (mY k) ∈ lw_tbl) ∧ (mY k).cls = nmC (mI k) ∧ mI k < 13 ∧ plainName (mY k).cls = true ∧ ((mY k).cls ≠ "java/lang/invoke/MethodHandle" ∧ (mY k).cls ≠ "java/lang/invoke/VarHandle") ∧ (parseMethodDescriptor (mY k).desc).map (fun d => d.parameters.length) = some (mN k - (if mZ k = 2 then 0 else 1)) ∧ (mZ k = 1 → (mY k).name = "<init>" ∧ mR k = 0) ∧ mR k ≤ 2 ∧ (mZ k ≠ 2 → 1 ≤ mN k) := by
  have h := mw_all hk
  unfold mwc at h
  simp only [Bool.and_eq_true] at h
  obtain ⟨⟨⟨⟨⟨⟨⟨⟨⟨h1, h2⟩, h3⟩, h4⟩, h5⟩, h6⟩, h7⟩, h8⟩, h9⟩, h10⟩ := h
  refine ⟨fun z => ?_, fun z => ?_, fun z => ?_, of_decide_eq_true h3, of_decide_eq_true h4, h5, of_decide_eq_true h6, of_decide_eq_true h7, of_decide_eq_true h8, of_decide_eq_true h9, of_decide_eq_true h10⟩
  · rw [if_pos z] at h1; exact lwAt_mem h1
  · rw [if_neg z] at h1; exact lwAt_mem h1
  · rw [if_pos z] at h2; exact lwAt_mem h2
theorem asc_ent {ad : Nat → Nat} (n : Nat) : ∀ (As : List PV) (i : Nat), asc ad i (As.flatMap sl2 ++ List.replicate n none) = lv_args i (As.map (trV ad)) := by
  have rep : ∀ (n i : Nat), asc ad i (List.replicate n none) = [] := by
    intro n
    induction n with
    | zero => intro i; rfl
    | succ n ih => intro i; exact ih (i + 1)
  intro As
  induction As with
  | nil => intro i; exact rep n i
  | cons v As ih =>
    intro i
    rw [List.map_cons, lv_args, trV_cat]
    cases hv : isL v with
    | true =>
      have e : (v :: As).flatMap sl2 ++ List.replicate n none = some v :: none :: (As.flatMap sl2 ++ List.replicate n none) := by
        simp [List.flatMap_cons, sl2, hv]
      rw [e, asc, asc, ih]
      rfl
    | false =>
      have e : (v :: As).flatMap sl2 ++ List.replicate n none = some v :: (As.flatMap sl2 ++ List.replicate n none) := by
        simp [List.flatMap_cons, sl2, hv]
      rw [e, asc, ih]
      rfl
theorem sl_len {ad : Nat → Nat} : ∀ (As : List PV), (lg_sl (As.map (trV ad))).length = (As.flatMap sl2).length := by
  intro As
  induction As with
  | nil => rfl
  | cons v As ih =>
    have e1 : lg_sl ((v :: As).map (trV ad)) = (if (trV ad v).category = 2 then [.val (trV ad v), .second] else [.val (trV ad v)]) ++ lg_sl (As.map (trV ad)) := by
      simp [lg_sl, List.flatMap_cons]
    rw [e1, List.length_append, ih, List.flatMap_cons, List.length_append, trV_cat]
    unfold sl2
    cases isL v <;> rfl
theorem ent_mem {k : Nat} {As : List PV} {v : PV} (h : some v ∈ entL k As) : v ∈ As := by
  unfold entL at h
  rcases List.mem_append.mp h with h | h
  · obtain ⟨w, hw, h2⟩ := List.mem_flatMap.mp h
    unfold sl2 at h2
    split at h2
    · simp at h2; rw [h2]; exact hw
    · simp at h2; rw [h2]; exact hw
  · have := List.eq_of_mem_replicate h
    cases this
theorem met_of {f : Nat} (IH : Snd f) {j : Nat} {As : List PV} {S : List Shp} {μ : Mu} {r : Option PV} {M' : Mem} (hj : j < 164) (h : exec f j 0 (entL j As) [] (S, μ, mC j, mS j) = some (r, M')) (hArg : argOk j As S = true) (hOk : ∀ v ∈ As, okV S.length v) (l : Launch) (D : va_G) (ad : Nat → Nat) (cA : Nat → ClassId) (tys : List (ClassId × FieldType)) (sz : Nat) :
    Met l (mY j) (wsK j) (rmK j) (PcM D S μ ad cA tys sz As) (QcM D S μ ad cA sz r M') (mC j) (mS j) (va_A (mkW S μ ad cA) sz) := by
  obtain ⟨-, -, -, h4, -, h6, -, -, h9, -, -⟩ := mw_spec hj
  refine Met.ofW (cc := mB j) (maxL := mL j) (ret := rT (mR j)) h6 rfl ?_
  intro p e s m args below meth c s₁ B hml hv
  obtain ⟨rfl, hsz, hWo, hNW⟩ := hv
  have hts := atoms_spec (ws := wsK j) B.pre
  have hown : s.vm.findClass (nmC (mI j)) = some m.cls := by rw [← h4]; exact findClass_of_methodNamed B.named
  have hin : mZ j = 1 → meth.name = "<init>" := fun z => by rw [(name_of_methodNamed B.named B.method).1]; exact (h9 z).1
  subst hsz
  unfold argOk at hArg
  simp only [Bool.and_eq_true] at hArg
  obtain ⟨⟨a1, a2⟩, -⟩ := hArg
  have a2 : (As.flatMap sl2).length ≤ mL j := of_decide_eq_true a2
  have hl := lv_entry (As.map (trV ad)) (n := mL j) (by rw [sl_len]; exact a2)
  rw [lg_entry_eq]
  generalize hgl : (lg_sl (As.map (trV ad)) ++ List.replicate (mL j - (lg_sl (As.map (trV ad))).length) Slot.unset).toArray = lsR at hl ⊢
  have hFs : Fs ad j S.length (entL j As) [] lsR := by
    refine ⟨?_, ?_, fun v hv => hOk v (ent_mem hv), fun v hv => (by cases hv), fun hn v hv => ?_⟩
    · unfold entL
      rw [asc_ent]
      exact hl
    · unfold entL
      rw [List.length_append, List.length_replicate]
      omega
    · rw [hn] at a1
      have := List.all_eq_true.mp (by simpa using a1 : As.all (fun v => !isL v) = true) v (ent_mem hv)
      simpa using this
  have hX : Fx p s m (As.map (trV ad)).toArray meth c j := ⟨hj, B.exec, B.bytes, B.returns, hml, hown, hts, B.notSynchronized, hin, hNW⟩
  have hres := IH j 0 (entL j As) [] S μ (mC j) (mS j) r M' h (l := l) (e := e) (below := below) (Qc := QcM D S μ ad cA s.heap.size r M') (free := va_A (mkW S μ ad cA) s.heap.size)
    (⟨hX, ⟨hWo.1, hWo.2.1, hWo.2.2.1.self, hWo.2.2.2⟩, va_S.rf, fun q hq => Or.inr hq, hFs, Nat.le_refl _, Nat.le_refl _⟩ : Hyp p s m (As.map (trV ad)).toArray meth c s.heap [] j D S μ ad cA tys (va_A (mkW S μ ad cA) s.heap.size) (entL j As) [] lsR (mC j) (mS j)) (fun _ h => h)
    (fun ad' cA' tys' H' locs' hag hlen hWo' hS' hr t ht hW => ⟨⟨ad', cA', tys', hag, hlen, rfl, ⟨va_K.moved hW.alike hWo'.1, by rw [ht]; exact hWo'.2.1, hWo'.2.2⟩, hr⟩, hS'.F ht⟩)
  rw [Nat.sub_self, Nat.sub_self] at hres
  exact hres
section CALL
variable {p : Program} {l : Launch} {e : Env} {s : State} {m : MethodId} {args : Array Value} {below : List Frame} {meth : Method} {c : Code} {H : Heap} {locs : List Loc} {Q : State → Prop} {k pc : Nat} {D : va_G} {S : List Shp} {μ : Mu} {ad : Nat → Nat} {cA : Nat → ClassId} {tys : List (ClassId × FieldType)} {A : Nat → Prop} {ls : Lo} {st : List PV} {lsR : Array Slot} {rc rs : Nat}
theorem callg {R : Room} {mc ms cells slots : Nat} {lsR : Array Slot} {st0 rest : List Value} {Qa : State → Outcome → State → Prop} {free : Addr → Prop} (hr : va_Run p l e R s m args below meth c H locs cells slots mc ms (F0 m pc lsR st0) rest Qa free)
    (kk : ∀ (v : Option Value) (st₀ t : State) (H1 : Heap) (L : List Loc), st₀.heap = H → t.heap = H1 → s.vm.Alike t.vm → Qa st₀ (.returned v) t → (∀ q ∈ L, free q.base) → W p l e R s m args below meth c H1 (locs ++ L) (cells + mc) (slots + ms) Q (F0 m (pc + 3) lsR (v.toList ++ rest))) : W p l e R s m args below meth c H locs cells slots Q (F0 m pc lsR st0) := by
  intro T hT X
  obtain ⟨v, st₀, t, T', L, h0, X', hL, e1, e2, hq, st⟩ := hr T hT X
  obtain ⟨t2, a1, b1⟩ := kk v st₀ t T'.heap L h0 e1.symm (by rw [← e2]; exact X'.warmed.alike) hq hL T' rfl X'
  exact ⟨t2, st t2 a1, b1⟩
/-- behind a call -/
theorem call_back {j : Nat} {As rest : List PV} {r1 : Option PV} {M1 : Mem} (h : Hyp p s m args meth c H locs k D S μ ad cA tys A ls (As.reverse ++ rest) lsR rc rs) (hmc : mC j ≤ rc) (hms : mS j ≤ rs) {a : Array Value} {st0 : List Value} (hr : va_Run p l e (rmK k) s m args below meth c H locs (mC k - rc) (mS k - rs) (mC j) (mS j) (F0 m pc lsR st0) (rest.map (trV ad)) (QcM D S μ ad cA H.size r1 M1 a) (va_A (mkW S μ ad cA) H.size))
    (kk : Cn p l e s m args below meth c Q k D A S.length ad cA (pc + 3) ls (r1.toList ++ rest) (M1.1, M1.2.1, rc - mC j, rs - mS j)) : W p l e (rmK k) s m args below meth c H locs (mC k - rc) (mS k - rs) Q (F0 m pc lsR st0) := by
  obtain ⟨hX, hWo, hS, hA, hF, hrc, hrs⟩ := h
  have hFA : ∀ q, va_A (mkW S μ ad cA) H.size q → A q := by
    intro q hq
    rcases hq with ⟨i, ee, hi⟩ | hq
    · exact hWo.2.2.1.2 i (q, ee) hi
    · exact hA q (Nat.le_trans hS.1 hq)
  refine callg hr (fun v st₀ t H1 L h0 h1 hvm hq hL => ?_)
  obtain ⟨⟨ad', cA', tys', hag, hlen, hv, hWo', hok⟩, hz, hk⟩ := hq
  cases hv
  subst h1
  rw [h0] at hz hk
  have hWo2 : Wo D M1.1 M1.2.1 ad' cA' tys' A s t.heap := ⟨va_K.moved hvm.symm hWo'.1, hWo'.2.1, hWo'.2.2.1.weaken (fun _ q _ hq => hFA q.1 hq), hWo'.2.2.2⟩
  have hS2 : va_S A s.heap t.heap (locs ++ L) := ⟨Nat.le_trans hS.1 hz, fun q h1 h2 => by rw [hk q (Nat.lt_of_lt_of_le h1 hS.1) (fun z => h2 (hFA q z))]; exact hS.2.1 q h1 h2, fun q hq => by
    rcases List.mem_append.mp hq with h | h
    · exact hS.2.2 q h
    · exact hFA _ (hL q h)⟩
  have hrest : ∀ v ∈ rest, okV S.length v := fun v hv => hF.2.2.2.1 v (by simp [hv])
  have hst : (r1.toList ++ rest).map (trV ad') = (r1.map (trV ad')).toList ++ rest.map (trV ad) := by
    rw [List.map_append, map_ag (fun x hx => (hag x hx).1) hrest]
    cases r1 <;> rfl
  have := kk ad' cA' tys' t.heap (locs ++ L) lsR hag hlen hWo2 hS2 (hF.ag (fun x hx => (hag x hx).1) hlen (fun v hv => by
    rcases List.mem_append.mp hv with h | h
    · exact hok v (by cases r1 <;> simp_all)
    · exact okV_mono hlen (hrest v h))) (by show rc - mC j ≤ mC k; omega) (by show rs - mS j ≤ mS k; omega)
  rw [hst] at this
  have e1 : mC k - rc + mC j = mC k - (rc - mC j) := by omega
  have e2 : mS k - rs + mS j = mS k - (rs - mS j) := by omega
  rw [e1, e2]
  exact this
theorem pcm_at (hWo : Wo D S μ ad cA tys A s H) (hN : NWs s) {As : List PV} {U : State} (hU : U.heap = H) (hW : s.WarmedH U.vm) : PcM D S μ ad cA tys H.size As (As.map (trV ad)).toArray U :=
  ⟨rfl, by rw [hU], ⟨va_K.moved hW.alike hWo.1, by rw [hU]; exact hWo.2.1, hWo.2.2.1.weaken (fun _ _ _ _ => trivial), hWo.2.2.2⟩, hN.warm hW⟩
theorem gi_app {big : List Cond} {a b : List Cond} (ha : ∀ w ∈ a, w ∈ big ∧ goodWord w = true) (hb : GoodIn big b) : GoodIn big (a ++ b) := by
  intro w hw
  rcases List.mem_append.mp hw with h | h
  · exact ⟨(ha w h).1, good_of_word (ha w h).2⟩
  · exact hb w h
theorem call_snd {f : Nat} (IH : Snd f) {j i b : Nat} {As rest : List PV} {ins : Instr} {r1 : Option PV} {M1 : Mem} (h : Hyp p s m args meth c H locs k D S μ ad cA tys A ls (As.reverse ++ rest) lsR rc rs) (hd : decode (mB k) pc = .ok (ins, 3))
    (hb : (ins = .invokevirtual i ∧ b = 3) ∨ (ins = .invokestatic i ∧ (b = 4 ∨ b = 5)) ∨ (ins = .invokespecial i ∧ (b = 6 ∨ b = 7)))
    (hm : MK.any (fun q => q.1 == mI k && q.2.1 == i && q.2.2.1 == b && q.2.2.2.1 == j) = true) (hR : mF j + 1 ≤ mF k ∧ 8 + (mL j + 11) + mO j ≤ mO k)
    (hn : As.length = mN j) (hlr : rest.length ≤ 4) (hArg : argOk j As S = true) (hmc : mC j ≤ rc) (hms : mS j ≤ rs) (h1 : exec f j 0 (entL j As) [] (S, μ, mC j, mS j) = some (r1, M1))
    (kk : Cn p l e s m args below meth c Q k D A S.length ad cA (pc + 3) ls (r1.toList ++ rest) (M1.1, M1.2.1, rc - mC j, rs - mS j)) : W p l e (rmK k) s m args below meth c H locs (mC k - rc) (mS k - rs) Q (F0 m pc lsR ((As.reverse ++ rest).map (trV ad))) := by
  have h0 := h
  obtain ⟨hX, hWo, hS, hA, hF, hrc, hrs⟩ := h
  obtain ⟨z, hz, hz1, hz2, hz3, hz4, hz5⟩ := any_mk hm
  have hj : j < 164 := by
    unfold mkc at hz5
    rw [hz3, hz4] at hz5
    rcases hb with ⟨-, rfl⟩ | ⟨-, rfl | rfl⟩ | ⟨-, rfl | rfl⟩ <;>
    · simp only [Bool.and_eq_true, decide_eq_true_eq] at hz5
      exact hz5.2.1
  obtain ⟨w1, w2, w3, w4, w5, w6, w7, w8, w9, w10, w11⟩ := mw_spec hj
  have hOk : ∀ v ∈ As, okV S.length v := fun v hv => hF.2.2.2.1 v (by simp [hv])
  have hM := met_of IH hj h1 hArg hOk l D ad cA tys H.size
  have hfix : CallFix p m c (mB k) (mL k) s args (wsK k) (nmC (mI k)) := ⟨hX.2.1, hX.2.2.1, hX.2.2.2.2.1, hX.2.2.2.2.2.1, hX.2.2.2.2.2.2.1⟩
  have hroom : 2 * (F0 m pc lsR ((As.reverse ++ rest).map (trV ad))).monitorRoom + ((rest.map (trV ad)).map fun v => v.category).sum ≤ 8 := by
    have := cat_sum (ad := ad) rest 4 hlr
    exact lv_room (by omega)
  have hfit : mC k - rc + mC j ≤ (rmK k).cells ∧ mS k - rs + mS j ≤ (rmK k).slots := ⟨by show _ ≤ mC k; omega, by show _ ≤ mS k; omega⟩
  have hini : Cond.initialized (nmC (mI j)) ∈ lw_tbl := ini_all w5
  have hinT : Cond.initialized (nmC (mI j)) ∈ wsK k := tw_in k _ (tw_mem hini rfl)
  have hgi : GoodIn (wsK k) (wsK j) := good_in (tw_in k) hj
  have hstk : (As.reverse ++ rest).map (trV ad) = (As.map (trV ad)).reverse ++ rest.map (trV ad) := by rw [List.map_append, List.map_reverse]
  refine call_back h0 hmc hms (a := (As.map (trV ad)).toArray) ?_ kk
  rw [hstk] at hroom ⊢
  unfold mkc at hz5
  rw [hz3, hz4, hz1, hz2] at hz5
  -- the receiver
  have recv : mZ j ≠ 2 → ∃ (q : Nat) (A2 : List PV) (ci : Nat) (fs : List (Option (Option Nat))), As = vR q :: A2 ∧ S[q]? = some (.inr (ci, fs)) ∧ ci = mI j := by
    intro hz2
    unfold argOk at hArg
    simp only [Bool.and_eq_true, Bool.or_eq_true, beq_iff_eq] at hArg
    have h3 := hArg.2
    rcases h3 with h3 | h3
    · exact absurd h3 hz2
    · split at h3
      · rename_i q A2
        split at h3
        · rename_i ci fs hq
          exact ⟨q, A2, ci, fs, rfl, hq, by simpa using h3⟩
        · cases h3
      · cases h3
  rcases hb with ⟨rfl, rfl⟩ | ⟨rfl, hb⟩ | ⟨rfl, hb⟩
  · simp only [Bool.and_eq_true, decide_eq_true_eq] at hz5
    have hZ : mZ j = 0 := hz5.2.2
    obtain ⟨q, A2, ci, fs, rfl, hq, rfl⟩ := recv (by rw [hZ]; decide)
    have hlk := lwAt_mem hz5.1
    have hdn : (parseMethodDescriptor (mY j).desc).map (fun d => d.parameters.length) = some A2.length := by
      rw [w8, hZ, ← hn]; rfl
    have hG : GoodIn (wsK k) (wsV (nmC (mI k)) i (nmC (mI j)) (mY j) (wsK j)) := gi_app (fun w hw => by
      simp only [List.mem_cons, List.not_mem_nil, or_false] at hw
      rcases hw with rfl | rfl | rfl | rfl
      · exact ⟨tw_in k _ (tw_mem hlk rfl), rfl⟩
      · exact ⟨tw_in k _ (tw_mem (w2 (by rw [hZ]; decide)) rfl), rfl⟩
      · exact ⟨tw_in k _ (tw_mem (w3 hZ) rfl), rfl⟩
      · exact ⟨hinT, rfl⟩) hgi
    exact va_runV (As := A2.map (trV ad)) (b := ad q) (rest := rest.map (trV ad)) (C := nmC (mI j)) hfix hM (cwV A2.length hX.2.2.2.2.2.2.1 hG rfl rfl rfl ⟨w4, w7.1, w7.2, hdn⟩ hR)
      ⟨PcM.blind, va_recv hWo.1 hWo.2.1 (cls_at w5) (mkW_at hq), fun U hU hW => pcm_at hWo hX.2.2.2.2.2.2.2.2.2 hU hW⟩ rfl (by rw [List.length_map]) hF.1.1 (by simp [trV]) hroom hd hfit
  · rcases hb with rfl | rfl
    · simp only [Bool.and_eq_true, decide_eq_true_eq] at hz5
      have hZ : mZ j = 2 := hz5.2.2.1
      have hlk := lwAt_mem hz5.1
      have hcl : (mY j).cls = nmC (mI k) := by rw [w4, hz5.2.2.2]
      have hdn : (parseMethodDescriptor (mY j).desc).map (fun d => d.parameters.length) = some As.length := by
        rw [w8, hZ, hn]; rfl
      have hG : GoodIn (wsK k) (wsS (nmC (mI k)) i (mY j) (wsK j)) := gi_app (fun w hw => by
        simp only [List.mem_cons, List.not_mem_nil, or_false] at hw
        rcases hw with rfl | rfl | rfl
        · exact ⟨tw_in k _ (tw_mem hlk rfl), rfl⟩
        · exact ⟨tw_in k _ (tw_mem (w1 hZ) rfl), rfl⟩
        · rw [← hz5.2.2.2]; exact ⟨hinT, rfl⟩) hgi
      exact va_runS (As := As.map (trV ad)) (rest := rest.map (trV ad)) hfix hM (cwS As.length hX.2.2.2.2.2.2.1 hG rfl rfl rfl ⟨hcl, w7.1, w7.2, hdn⟩ hR)
        ⟨PcM.blind, fun U hU hW => pcm_at hWo hX.2.2.2.2.2.2.2.2.2 hU hW⟩ rfl (by rw [List.length_map]) hF.1.1 rfl hroom hd hfit
    · simp only [Bool.and_eq_true, decide_eq_true_eq] at hz5
      have hZ : mZ j = 2 := hz5.2.2
      have hdn : (parseMethodDescriptor (mY j).desc).map (fun d => d.parameters.length) = some As.length := by
        rw [w8, hZ, hn]; rfl
      have hnw := hX.2.2.2.2.2.2.2.2.2 z hz (by rw [hz3]; exact Or.inl rfl)
      rw [hz1, hz2, hz4] at hnw
      exact va_runSN (As := As.map (trV ad)) (rest := rest.map (trV ad)) (host := RX11) hfix hM ⟨va_cnB As.length hX.2.2.2.2.2.2.1 hgi rfl rfl rfl hnw (by rw [w4]; exact hX.w hini rfl) ⟨w7.1, w7.2, hdn⟩ hR, hX.w (w1 hZ) rfl, trivial⟩
        ⟨PcM.blind, fun U hU hW => pcm_at hWo hX.2.2.2.2.2.2.2.2.2 hU hW⟩ rfl (by rw [List.length_map]) hF.1.1 rfl hroom hd hfit
  · rcases hb with rfl | rfl
    · simp only [Bool.and_eq_true, decide_eq_true_eq] at hz5
      have hZ : mZ j = 1 := hz5.2.2
      obtain ⟨q, A2, ci, fs, rfl, hq, rfl⟩ := recv (by rw [hZ]; decide)
      have hlk := lwAt_mem hz5.1
      have hr0 : rT (mR j) = none := by rw [(w9 hZ).2]; rfl
      have hdn : (parseMethodDescriptor (mY j).desc).map (fun d => d.parameters.length) = some A2.length := by
        rw [w8, hZ, ← hn]; rfl
      exact va_runI (As := A2.map (trV ad)) (b := ad q) (rest := rest.map (trV ad)) hfix hM (cwI (bytes := mB j) (maxL := mL j) (ws' := TW) A2.length hX.2.2.2.2.2.2.1 hgi (by rw [← hr0]; rfl) rfl rfl (by rw [w4]; exact hX.w hini rfl) (hX.w hlk rfl) (hX.w (w2 (by rw [hZ]; decide)) rfl) (w9 hZ).1 ⟨w7.1, w7.2, hdn⟩ hR)
        ⟨PcM.blind, fun U hU hW => pcm_at hWo hX.2.2.2.2.2.2.2.2.2 hU hW⟩ rfl (by rw [List.length_map]) hF.1.1 (by simp [trV]) hroom hd hfit
    · simp only [Bool.and_eq_true, decide_eq_true_eq] at hz5
      have hZ : mZ j = 1 := hz5.2.2
      obtain ⟨q, A2, ci, fs, rfl, hq, rfl⟩ := recv (by rw [hZ]; decide)
      have hr0 : rT (mR j) = none := by rw [(w9 hZ).2]; rfl
      have hdn : (parseMethodDescriptor (mY j).desc).map (fun d => d.parameters.length) = some A2.length := by
        rw [w8, hZ, ← hn]; rfl
      have hnw := hX.2.2.2.2.2.2.2.2.2 z hz (by rw [hz3]; exact Or.inr rfl)
      rw [hz1, hz2, hz4] at hnw
      exact va_runIN (As := A2.map (trV ad)) (b := ad q) (rest := rest.map (trV ad)) (host := RX11) hfix hM ⟨va_cnB (bytes := mB j) (maxL := mL j) (ws' := TW) A2.length hX.2.2.2.2.2.2.1 hgi (by rw [← hr0]; rfl) rfl rfl hnw (by rw [w4]; exact hX.w hini rfl) ⟨w7.1, w7.2, hdn⟩ hR, (w9 hZ).1, hX.w (w2 (by rw [hZ]; decide)) rfl⟩
        ⟨PcM.blind, fun U hU hW => pcm_at hWo hX.2.2.2.2.2.2.2.2.2 hU hW⟩ rfl (by rw [List.length_map]) hF.1.1 (by simp [trV]) hroom hd hfit
end CALL
