/-! steps that make cells, and the library's methods -/
theorem jw_all : Cond.static Lib.Math.max.name ∈ lw_tbl ∧ Cond.initialized "java/lang/Math" ∈ lw_tbl ∧ Cond.code Lib.Math.max.name Lib.Math.max.code 2 (some .int) ∈ lw_tbl ∧ Cond.native arraycopyName ∈ lw_tbl ∧ Cond.static arraycopyName ∈ lw_tbl ∧ Cond.initialized "java/lang/System" ∈ lw_tbl ∧ Cond.instanceMethod Lib.objectInit ∈ lw_tbl ∧ Cond.code Lib.objectInit ⟨#[0xb1]⟩ 1 none ∈ lw_tbl ∧ Cond.arrayClass .int ∈ lw_tbl ∧ Cond.arrayClass .boolean ∈ lw_tbl := by
  have h := jw_ok
  simp only [Bool.and_eq_true] at h
  obtain ⟨⟨⟨⟨⟨⟨⟨⟨⟨h0, h1⟩, h2⟩, h3⟩, h4⟩, h5⟩, h6⟩, h7⟩, h8⟩, h9⟩ := h
  exact ⟨lwAt_mem h0, lwAt_mem h1, lwAt_mem h2, lwAt_mem h3, lwAt_mem h4, lwAt_mem h5, lwAt_mem h6, lwAt_mem h7, lwAt_mem h8, lwAt_mem h9⟩
theorem cat_sum {ad : Nat → Nat} : ∀ (st : List PV) (n : Nat), st.length ≤ n → ((st.map (trV ad)).map fun v => v.category).sum ≤ 2 * n := by
  intro st
  induction st with
  | nil => intro n _; simp
  | cons v st ih =>
    intro n hn
    cases n with
    | zero => simp at hn
    | succ n =>
      have h1 := ih n (by simpa using hn)
      have h2 : (trV ad v).category ≤ 2 := by rw [trV_cat]; split <;> decide
      simp only [List.map_cons, List.sum_cons]
      omega
section SNN
variable {p : Program} {l : Launch} {e : Env} {s : State} {m : MethodId} {args : Array Value} {below : List Frame} {meth : Method} {c : Code} {H : Heap} {locs : List Loc} {Q : State → Prop} {k pc : Nat} {D : va_G} {S : List Shp} {μ : Mu} {ad : Nat → Nat} {cA : Nat → ClassId} {tys : List (ClassId × FieldType)} {A : Nat → Prop} {ls : Lo} {st : List PV} {lsR : Array Slot} {rc rs : Nat}
theorem ShOK.push {sh : Shp} (h : ShOK S) (h1 : shOK (S.length + 1) sh) : ShOK (S ++ [sh]) := by
  have mono : ∀ sh2, shOK S.length sh2 → shOK (S.length + 1) sh2 := by
    intro sh2 hs
    rcases sh2 with x | x
    · trivial
    · refine ⟨hs.1, hs.2.1, fun i o ho => ?_⟩
      have := hs.2.2 i o ho
      rcases o with _ | _ | o
      · exact this
      · exact this
      · exact ⟨this.1, Nat.lt_succ_of_lt this.2⟩
  intro q x hq
  rw [List.length_append]
  show shOK (S.length + 1) x
  by_cases hl : q < S.length
  · rw [List.getElem?_append_left hl] at hq
    exact mono x (h q x hq)
  · have h2 := (List.getElem?_eq_some_iff.mp hq).1
    have hq2 : q = S.length := by simp at h2; omega
    subst hq2
    have e2 : (S ++ [sh])[S.length]? = some sh := by simp
    rw [e2] at hq
    cases hq
    exact h1
theorem sn_newa {t : ArrayType} {b : Bool} {n : Int} {st' : List PV} (h : Hyp p s m args meth c H locs k D S μ ad cA tys A ls (vI n :: st') lsR rc rs) (hd : decode (mB k) pc = .ok (.newarray t, 2)) (ht : (t = .int ∧ b = false) ∨ (t = .boolean ∧ b = true)) (hn : 0 ≤ n ∧ n ≤ 2147483647 ∧ n.toNat * 4 ≤ 536870912 ∧ 1 ≤ rc ∧ n.toNat ≤ rs) (kk : Cn p l e s m args below meth c Q k D A S.length ad cA (pc + 2) ls (vR S.length :: st') (S ++ [.inl (b, n.toNat)], u0 μ S.length, rc - 1, rs - n.toNat)) : W p l e (rmK k) s m args below meth c H locs (mC k - rc) (mS k - rs) Q (F0 m pc lsR ((vI n :: st').map (trV ad))) := by
  obtain ⟨hX, hWo, hS, hA, hF, hrc, hrs⟩ := h
  have hx : iR n := hF.2.2.2.1 (vI n) (by simp)
  have hn0 : ¬ oI n < 0 := by
    rw [← oI_0, oI_lt hx (by decide)]; omega
  have fin : ∀ (q : Nat) (cA0 : ClassId) (H1 : Heap), va_K D cls (tys ++ [(cA0, bty b)]) s → va_P D cls (mkW S μ ad cA ++ [(q, .inl (cA0, (n.toNat, .inl (fun _ => oI 0))))]) H1 → va_D A (mkW S μ ad cA ++ [(q, .inl (cA0, (n.toNat, .inl (fun _ => oI 0))))]) → va_S A s.heap H1 locs → W p l e (rmK k) s m args below meth c H1 locs (mC k - rc + 1) (mS k - rs + n.toNat) Q (F0 m (pc + 2) lsR (.ref q :: st'.map (trV ad))) := by
    intro q cA0 H1 hK hP hD hS1
    have he : (.inl (cA0, (n.toNat, .inl (fun _ => oI 0))) : va_E) = mkE (upA ad S.length q) (upA cA S.length cA0) (u0 μ S.length) S.length (.inl (b, n.toNat)) := by
      show (Sum.inl _ : va_E) = Sum.inl (upA cA S.length cA0 S.length, n.toNat, Sum.inl (fun j : Nat => oI (u0 μ S.length S.length (j : Int))))
      rw [upA_self]
      unfold u0
      rw [if_pos rfl]
    rw [mkW_push hWo.2.2.2.2.2 he] at hP hD
    have hag : ∀ x, x < S.length → upA ad S.length q x = ad x := fun x hx => upA_lt hx
    have hlen : (S ++ [.inl (b, n.toNat)] : List Shp).length = S.length + 1 := by simp
    have hTy : TyOK (S ++ [.inl (b, n.toNat)]) (upA cA S.length cA0) (tys ++ [(cA0, bty b)]) := by
      intro p2 b2 n2 h2
      by_cases hl : p2 < S.length
      · rw [List.getElem?_append_left hl] at h2
        obtain ⟨i, hi⟩ := hWo.2.2.2.1 p2 b2 n2 h2
        refine ⟨i, ?_⟩
        rw [List.getElem?_append_left (List.getElem?_eq_some_iff.mp hi).1, hi, upA_lt hl]
      · have h3 := (List.getElem?_eq_some_iff.mp h2).1
        have hq2 : p2 = S.length := by simp at h3; omega
        subst hq2
        have e2 : (S ++ [.inl (b, n.toNat)] : List Shp)[S.length]? = some (.inl (b, n.toNat)) := by simp
        rw [e2] at h2
        cases h2
        refine ⟨tys.length, ?_⟩
        rw [upA_self]
        simp
    have hst : (vR S.length :: st').map (trV (upA ad S.length q)) = .ref q :: st'.map (trV ad) := by
      show Value.ref (upA ad S.length q S.length) :: _ = _
      rw [upA_self, map_ag hag (fun v hv => hF.2.2.2.1 v (by simp [hv]))]
    have := kk (upA ad S.length q) (upA cA S.length cA0) (tys ++ [(cA0, bty b)]) H1 locs lsR (fun x hx => ⟨upA_lt hx, upA_lt hx⟩) (by show S.length ≤ (S ++ [.inl (b, n.toNat)] : List Shp).length; rw [hlen]; omega) ⟨hK, hP, hD, hTy, hWo.2.2.2.2.1.zo, hWo.2.2.2.2.2.push trivial⟩ hS1
      (by
        show Fs (upA ad S.length q) k (S ++ [.inl (b, n.toNat)] : List Shp).length ls (vR S.length :: st') lsR
        rw [hlen]
        refine hF.ag hag (by omega) (fun v hv => ?_)
        rcases List.mem_cons.mp hv with rfl | hv
        · exact Nat.lt_succ_self _
        · exact okV_mono (Nat.le_succ _) (hF.2.2.2.1 v (by simp [hv])))
      (by show rc - 1 ≤ mC k; omega) (by show rs - n.toNat ≤ mS k; omega)
    rw [hst] at this
    have e1 : mC k - rc + 1 = mC k - (rc - 1) := by omega
    have e2 : mS k - rs + n.toNat = mS k - (rs - n.toNat) := by omega
    rw [e1, e2]
    exact this
  show W p l e (rmK k) s m args below meth c H locs (mC k - rc) (mS k - rs) Q (F0 m pc lsR (.int (oI n) :: st'.map (trV ad)))
  have hcells : mC k - rc + 1 ≤ (rmK k).cells := by show mC k - rc + 1 ≤ mC k; omega
  have hslots : mS k - rs + n.toNat ≤ (rmK k).slots := by show mS k - rs + n.toNat ≤ mS k; omega
  rcases ht with ⟨rfl, rfl⟩ | ⟨rfl, rfl⟩
  · exact va_newa (atype := .int) (ty := .int) (a0 := (n.toNat, .inl (fun _ => oI 0))) (N' := n.toNat) hX.2.1 hX.2.2.1 (hX.w jw_all.2.2.2.2.2.2.2.2.1 rfl) rfl hWo.1 hWo.2.1 hWo.2.2.1 hS hA (fun cA => by rw [vp_cell_i, oI_0]; rfl) hn0 (oI_cl hx) hn.2.2.1 hcells hslots hd fin
  · exact va_newa (atype := .boolean) (ty := .boolean) (a0 := (n.toNat, .inl (fun _ => oI 0))) (N' := n.toNat) hX.2.1 hX.2.2.1 (hX.w jw_all.2.2.2.2.2.2.2.2.2 rfl) rfl hWo.1 hWo.2.1 hWo.2.2.1 hS hA (fun cA => by rw [vp_cell_i, oI_0]; rfl) hn0 (oI_cl hx) (by have e : componentBytes .boolean = 1 := rfl; rw [e]; omega) hcells hslots hd fin
theorem sn_new {i ci : Nat} (h : Hyp p s m args meth c H locs k D S μ ad cA tys A ls st lsR rc rs) (hd : decode (mB k) pc = .ok (.new i, 3)) (hcl : Cond.classLink (nmC (mI k)) i (nmC ci) ∈ lw_tbl) (hin : Cond.instantiable (nmC ci) (clN ci) ∈ lw_tbl) (hci : ci < 13) (hn : 1 ≤ rc ∧ (bl ci).length ≤ rs) (kk : Cn p l e s m args below meth c Q k D A S.length ad cA (pc + 3) ls (vR S.length :: st) (S ++ [.inr (ci, bl ci)], u0 μ S.length, rc - 1, rs - (bl ci).length)) : W p l e (rmK k) s m args below meth c H locs (mC k - rc) (mS k - rs) Q (F0 m pc lsR (st.map (trV ad))) := by
  obtain ⟨hX, hWo, hS, hA, hF, hrc, hrs⟩ := h
  obtain ⟨hbl, hbf⟩ := bl_all ci hci
  have hfs : ∀ j, j < clN ci → defaultValue (tyC ci j) = vp_V ((bl ci).mapIdx (fun i o => fV ad (u0 μ S.length) S.length i o)) j := by
    intro j hj
    unfold vp_V
    rw [List.getD_eq_getElem?_getD, List.getElem?_mapIdx]
    rcases hbf j hj with ⟨h1, h2⟩ | ⟨h1, h2, h3⟩
    · rw [h1, h2]
      show Value.int 0 = Value.int (oI (u0 μ S.length S.length (j : Int)))
      unfold u0
      rw [if_pos rfl, oI_0]
    · rw [h1, h3]; rfl
  have hsh : shOK (S.length + 1) (.inr (ci, bl ci)) := by
    refine ⟨hci, hbl, fun j o ho => ?_⟩
    have hj : j < clN ci := by rw [← hbl]; exact (List.getElem?_eq_some_iff.mp ho).1
    rcases hbf j hj with ⟨h1, h2⟩ | ⟨h1, h2, h3⟩
    · rw [h1] at ho; cases ho; exact h2
    · rw [h1] at ho; cases ho; exact h2
  refine va_new (C := nmC ci) (T := clT ci) (N := clN ci) (ci := ci) hX.2.1 hX.2.2.1 hX.2.2.2.2.2.2.1 (fun w hw => tw_in k _ (cls_in hci w hw)) (tyC ci) (ty_all ci hci) hX.2.2.2.2.2.1 (hX.w hcl rfl) (hX.w hin rfl) (hX.w (ini_all hci) rfl) hWo.1 hWo.2.1 hWo.2.2.1 hS hA (cls_at hci) hfs (by show mC k - rc + 1 ≤ mC k; omega) (by show mS k - rs + clN ci ≤ mS k; omega) hd (fun q H1 hP hD hS1 => ?_)
  have he : (.inr (ci, (bl ci).mapIdx (fun i o => fV ad (u0 μ S.length) S.length i o)) : va_E) = mkE (upA ad S.length q) (upA cA S.length 0) (u0 μ S.length) S.length (.inr (ci, bl ci)) := by
    show (Sum.inr _ : va_E) = Sum.inr _
    refine congrArg Sum.inr (congrArg (Prod.mk _) ?_)
    apply List.ext_getElem?
    intro j
    rw [List.getElem?_mapIdx, List.getElem?_mapIdx]
    rcases ho : (bl ci)[j]? with _ | o
    · rfl
    · have hj : j < clN ci := by rw [← hbl]; exact (List.getElem?_eq_some_iff.mp ho).1
      rcases hbf j hj with ⟨h1, h2⟩ | ⟨h1, h2, h3⟩
      · rw [h1] at ho; cases ho; rfl
      · rw [h1] at ho; cases ho; rfl
  rw [mkW_push hWo.2.2.2.2.2 he] at hP hD
  have hag : ∀ x, x < S.length → upA ad S.length q x = ad x := fun x hx => upA_lt hx
  have hlen : (S ++ [.inr (ci, bl ci)] : List Shp).length = S.length + 1 := by simp
  have hTy : TyOK (S ++ [.inr (ci, bl ci)]) (upA cA S.length 0) tys := by
    intro p2 b2 n2 h2
    by_cases hl : p2 < S.length
    · rw [List.getElem?_append_left hl] at h2
      rw [upA_lt hl]
      exact hWo.2.2.2.1 p2 b2 n2 h2
    · have h3 := (List.getElem?_eq_some_iff.mp h2).1
      have hq2 : p2 = S.length := by simp at h3; omega
      subst hq2
      have e2 : (S ++ [.inr (ci, bl ci)] : List Shp)[S.length]? = some (.inr (ci, bl ci)) := by simp
      rw [e2] at h2
      cases h2
  have hst : (vR S.length :: st).map (trV (upA ad S.length q)) = .ref q :: st.map (trV ad) := by
    show Value.ref (upA ad S.length q S.length) :: _ = _
    rw [upA_self, map_ag hag hF.2.2.2.1]
  have := kk (upA ad S.length q) (upA cA S.length 0) tys H1 locs lsR (fun x hx => ⟨upA_lt hx, upA_lt hx⟩) (by show S.length ≤ (S ++ [.inr (ci, bl ci)] : List Shp).length; rw [hlen]; omega) ⟨hWo.1, hP, hD, hTy, hWo.2.2.2.2.1.zo, hWo.2.2.2.2.2.push hsh⟩ hS1
    (by
      show Fs (upA ad S.length q) k (S ++ [.inr (ci, bl ci)] : List Shp).length ls (vR S.length :: st) lsR
      rw [hlen]
      refine hF.ag hag (by omega) (fun v hv => ?_)
      rcases List.mem_cons.mp hv with rfl | hv
      · exact Nat.lt_succ_self _
      · exact okV_mono (Nat.le_succ _) (hF.2.2.2.1 v hv))
    (by show rc - 1 ≤ mC k; omega) (by show rs - (bl ci).length ≤ mS k; omega)
  rw [hst] at this
  have e1 : mC k - rc + 1 = mC k - (rc - 1) := by omega
  have e2 : mS k - rs + clN ci = mS k - (rs - (bl ci).length) := by omega
  rw [e1, e2]
  exact this
theorem sn_max {i : Nat} {x y : Int} {st' : List PV} (h : Hyp p s m args meth c H locs k D S μ ad cA tys A ls (vI y :: vI x :: st') lsR rc rs) (hd : decode (mB k) pc = .ok (.invokestatic i, 3)) (hlk : Cond.methodLink (nmC (mI k)) i Lib.Math.max.name ∈ lw_tbl) (hR : 1 ≤ mF k ∧ 21 ≤ mO k) (hl : st'.length ≤ 4) (kk : Cn p l e s m args below meth c Q k D A S.length ad cA (pc + 3) ls (vI (if x < y then y else x) :: st') (S, μ, rc, rs)) : W p l e (rmK k) s m args below meth c H locs (mC k - rc) (mS k - rs) Q (F0 m pc lsR ((vI y :: vI x :: st').map (trV ad))) := by
  obtain ⟨hX, hWo, hS, hA, hF, hrc, hrs⟩ := h
  have hy : iR y := hF.2.2.2.1 (vI y) (by simp)
  have hx : iR x := hF.2.2.2.1 (vI x) (by simp)
  show W p l e (rmK k) s m args below meth c H locs (mC k - rc) (mS k - rs) Q (F0 m pc lsR (.int (oI y) :: .int (oI x) :: st'.map (trV ad)))
  have hcs := cat_sum (ad := ad) st' 4 hl
  refine va_mmax hX.2.1 hX.2.2.1 (by rw [hX.2.2.2.2.1]; exact hF.1.1.symm) hX.2.2.2.2.2.1 (hX.w hlk rfl) (hX.w jw_all.1 rfl) (hX.w jw_all.2.1 rfl) (hX.w jw_all.2.2.1 rfl) hR.1 (by show _ ≤ mO k; omega) (by show mC k - rc ≤ mC k; omega) (by show mS k - rs ≤ mS k; omega) hd ?_
  rw [oI_max hx hy]
  exact kk.go hWo hS (hF.stk (fun v hv => by
    rcases List.mem_cons.mp hv with rfl | hv
    · show iR _
      split
      · exact hy
      · exact hx
    · exact hF.2.2.2.1 v (by simp [hv]))) hrc hrs
theorem sn_copy {i q0 q1 n0 n1 : Nat} {sp dp n : Int} {st' : List PV} (h : Hyp p s m args meth c H locs k D S μ ad cA tys A ls (vI n :: vI dp :: vR q1 :: vI sp :: vR q0 :: st') lsR rc rs) (hd : decode (mB k) pc = .ok (.invokestatic i, 3)) (hlk : Cond.methodLink (nmC (mI k)) i arraycopyName ∈ lw_tbl) (hR : 1 ≤ mF k ∧ 26 ≤ mO k) (h0 : S[q0]? = some (.inl (false, n0))) (h1 : S[q1]? = some (.inl (false, n1))) (hq : 0 ≤ sp ∧ 0 ≤ dp ∧ 0 ≤ n ∧ sp + n ≤ n0 ∧ dp + n ≤ n1) (hl : st'.length ≤ 4) (kk : Cn p l e s m args below meth c Q k D A S.length ad cA (pc + 3) ls st' (S, cpM μ q0 q1 sp dp n, rc, rs)) : W p l e (rmK k) s m args below meth c H locs (mC k - rc) (mS k - rs) Q (F0 m pc lsR ((vI n :: vI dp :: vR q1 :: vI sp :: vR q0 :: st').map (trV ad))) := by
  obtain ⟨hX, hWo, hS, hA, hF, hrc, hrs⟩ := h
  have hn : iR n := hF.2.2.2.1 (vI n) (by simp)
  have hdp : iR dp := hF.2.2.2.1 (vI dp) (by simp)
  have hsp : iR sp := hF.2.2.2.1 (vI sp) (by simp)
  obtain ⟨t0, ht0⟩ := hWo.2.2.2.1 q0 false n0 h0
  obtain ⟨t1, ht1⟩ := hWo.2.2.2.1 q1 false n1 h1
  have ng : ∀ {x : Int}, iR x → 0 ≤ x → ¬ oI x < 0 := fun {x} hx h => by rw [← oI_0, oI_lt hx (by decide)]; omega
  have hcs := cat_sum (ad := ad) st' 4 hl
  have hnf : nativeFrameWords "java/lang/System" "arraycopy" 5 = 7 := by decide +kernel
  show W p l e (rmK k) s m args below meth c H locs (mC k - rc) (mS k - rs) Q (F0 m pc lsR (.int (oI n) :: .int (oI dp) :: .ref (ad q1) :: .int (oI sp) :: .ref (ad q0) :: st'.map (trV ad)))
  refine va_copyi (ty := .int) hX.2.1 hX.2.2.1 (by rw [hX.2.2.2.2.1]; exact hF.1.1.symm) hX.2.2.2.2.2.1 (hX.w hlk rfl) (hX.w jw_all.2.2.2.1 rfl) (hX.w jw_all.2.2.2.2.1 rfl) (hX.w jw_all.2.2.2.2.2.1 rfl) hWo.1 hWo.2.1 hWo.2.2.1 hS q0 q1 t0 t1 (mkW_at h0) (mkW_at h1) ht0 ht1 rfl (ng hsp hq.1) (ng hdp hq.2.1) (ng hn hq.2.2.1) (by rw [oI_cl hsp, oI_cl hn]; omega) (by rw [oI_cl hdp, oI_cl hn]; omega) (fun _ _ => rfl) hR.1 (by show _ ≤ mO k; rw [hnf]; omega) hd (fun H1 locs1 hP hD hS1 => ?_)
  rw [oI_cl hsp, oI_cl hdp, oI_cl hn, mkW_cpy h1 hq.1 hq.2.1 hq.2.2.1] at hP hD
  exact kk.go ⟨hWo.1, hP, hD, hWo.2.2.2.1, hWo.2.2.2.2.1.cp, hWo.2.2.2.2.2⟩ hS1 (hF.stk (fun v hv => hF.2.2.2.1 v (by simp [hv]))) hrc hrs
theorem sn_obj {i q : Nat} (h : Hyp p s m args meth c H locs k D S μ ad cA tys A ls [vR q] lsR rc rs) (hd : decode (mB k) pc = .ok (.invokespecial i, 3)) (hlk : Cond.methodLink (nmC (mI k)) i Lib.objectInit ∈ lw_tbl) (hR : 1 ≤ mF k ∧ 12 ≤ mO k) (kk : Cn p l e s m args below meth c Q k D A S.length ad cA (pc + 3) ls [] (S, μ, rc, rs)) : W p l e (rmK k) s m args below meth c H locs (mC k - rc) (mS k - rs) Q (F0 m pc lsR ([vR q].map (trV ad))) := by
  obtain ⟨hX, hWo, hS, hA, hF, hrc, hrs⟩ := h
  refine W.objInit (g := F0 m pc lsR [.ref (ad q)]) hX.2.1 hX.2.2.1 hX.2.2.2.2.2.1 (hX.w hlk rfl) (hX.w jw_all.2.2.2.2.2.2.1 rfl) (hX.w jw_all.2.2.2.2.2.2.2.1 rfl) rfl (by rw [hX.2.2.2.2.1]; exact hF.1.1) rfl hd hR.1 (by show 2 * 0 + 0 + 12 ≤ mO k; omega) ?_
  exact kk.go hWo hS (hF.stk (fun v hv => by cases hv)) hrc hrs
end SNN
