/-! steps that reach the heap -/
theorem cls_at {ci : Nat} (h : ci < 13) : cls[ci]? = some (nmC ci, clT ci, clN ci) := by
  have h2 : ci < cls.length := h
  unfold nmC clT clN
  rw [List.getD_eq_getElem?_getD, List.getElem?_eq_getElem h2]
  rfl
theorem cls_in {ci : Nat} (h : ci < 13) : ∀ w ∈ u_ws (nmC ci) (clT ci) (clN ci), w ∈ TW := by
  intro w hw
  obtain ⟨f, hf, rfl⟩ := List.mem_map.mp hw
  have h1 := List.all_eq_true.mp cw_ok ci (List.mem_range.mpr h)
  unfold cwc at h1
  rw [Bool.and_eq_true] at h1
  refine tw_mem (lwAt_mem (List.all_eq_true.mp h1.2 f hf)) ?_
  unfold u_lay
  split <;> rfl
theorem ty_all : ∀ ci, ci < 13 → ∀ f, f < clN ci → parseFieldDescriptor (clT ci f).2.2.1 = some (tyC ci f) := by decide +kernel
theorem nm_all : ∀ ci, ci < 13 → ∀ a, a < clN ci → ∀ b, b < clN ci → a ≠ b → (clT ci a).2.1 ≠ (clT ci b).2.1 := by decide +kernel
theorem bl_all : ∀ ci, ci < 13 → (bl ci).length = clN ci ∧ ∀ i, i < clN ci → ((bl ci)[i]? = some none ∧ tyC ci i = .int) ∨ ((bl ci)[i]? = some (some none) ∧ rfT (tyC ci i) = true ∧ defaultValue (tyC ci i) = .null) := by decide +kernel
theorem ini_all {ci : Nat} (h : ci < 13) : Cond.initialized (nmC ci) ∈ lw_tbl := by
  have h1 := List.all_eq_true.mp cw_ok ci (List.mem_range.mpr h)
  unfold cwc at h1
  rw [Bool.and_eq_true] at h1
  exact lwAt_mem h1.1
theorem rfT_fit {t : FieldType} (h : rfT t = true) (a : Nat) : narrow t (.ref a) = .ref a ∧ fits t (.ref a) = true := by
  cases t <;> first | exact ⟨rfl, rfl⟩ | cases h
section SNM
variable {p : Program} {l : Launch} {e : Env} {s : State} {m : MethodId} {args : Array Value} {below : List Frame} {meth : Method} {c : Code} {H : Heap} {locs : List Loc} {Q : State → Prop} {k pc : Nat} {D : va_G} {S : List Shp} {μ : Mu} {ad : Nat → Nat} {cA : Nat → ClassId} {tys : List (ClassId × FieldType)} {A : Nat → Prop} {ls : Lo} {st : List PV} {lsR : Array Slot} {rc rs : Nat}
theorem sn_get {i q ci f : Nat} {fs : List (Option (Option Nat))} {v : PV} {st' : List PV} (h : Hyp p s m args meth c H locs k D S μ ad cA tys A ls (vR q :: st') lsR rc rs) (hd : decode (mB k) pc = .ok (.getfield i, 3)) (hlk : Cond.fieldLink (nmC (mI k)) i (clT ci f).1 (clT ci f).2.1 (clT ci f).2.2.1 ∈ lw_tbl) (hf : f < clN ci) (hq : S[q]? = some (.inr (ci, fs))) (hv : (fs[f]? = some none ∧ v = vI (μ q f)) ∨ ∃ z, fs[f]? = some (some (some z)) ∧ v = vR z) (kk : Cn p l e s m args below meth c Q k D A S.length ad cA (pc + 3) ls (v :: st') (S, μ, rc, rs)) : W p l e (rmK k) s m args below meth c H locs (mC k - rc) (mS k - rs) Q (F0 m pc lsR ((vR q :: st').map (trV ad))) := by
  obtain ⟨hX, hWo, hS, hA, hF, hrc, hrs⟩ := h
  have hsh := hWo.2.2.2.2.2 q _ hq
  have hok : okV S.length v := by
    rcases hv with ⟨-, rfl⟩ | ⟨z, h1, rfl⟩
    · exact hWo.2.2.2.2.1 q f
    · exact (hsh.2.2 f _ h1).2
  have hval : (fs.mapIdx (fun i o => fV ad μ q i o))[f]? = some (trV ad v) := by
    rw [List.getElem?_mapIdx]
    rcases hv with ⟨h1, rfl⟩ | ⟨z, h1, rfl⟩
    · rw [h1]; rfl
    · rw [h1]; rfl
  show W p l e (rmK k) s m args below meth c H locs (mC k - rc) (mS k - rs) Q (F0 m pc lsR (.ref (ad q) :: st'.map (trV ad)))
  refine va_get (C := nmC ci) (T := clT ci) (N := clN ci) (ci := ci) hX.2.1 hX.2.2.1 hX.2.2.2.2.2.2.1 (fun w hw => tw_in k _ (cls_in hsh.1 w hw)) hX.2.2.2.2.2.1 hWo.1 hWo.2.1 q (mkW_at hq) (cls_at hsh.1) f hf (hX.w hlk rfl) (fun _ h9 => h9) hval hd ?_
  exact kk.go hWo hS (hF.stk (fun w hw => by
    rcases List.mem_cons.mp hw with rfl | hw
    · exact hok
    · exact hF.2.2.2.1 w (by simp [hw]))) hrc hrs
theorem sn_putI {i q ci f : Nat} {fs : List (Option (Option Nat))} {x : Int} {st' : List PV} (h : Hyp p s m args meth c H locs k D S μ ad cA tys A ls (vI x :: vR q :: st') lsR rc rs) (hd : decode (mB k) pc = .ok (.putfield i, 3)) (hlk : Cond.fieldLink (nmC (mI k)) i (clT ci f).1 (clT ci f).2.1 (clT ci f).2.2.1 ∈ lw_tbl) (hf : f < clN ci) (hfin : (clT ci f).2.2.2 = false ∨ (mZ k = 1 ∧ (clT ci f).1 = nmC (mI k))) (hq : S[q]? = some (.inr (ci, fs))) (hv : fs[f]? = some none) (kk : Cn p l e s m args below meth c Q k D A S.length ad cA (pc + 3) ls st' (S, u2 μ q f x, rc, rs)) : W p l e (rmK k) s m args below meth c H locs (mC k - rc) (mS k - rs) Q (F0 m pc lsR ((vI x :: vR q :: st').map (trV ad))) := by
  obtain ⟨hX, hWo, hS, hA, hF, hrc, hrs⟩ := h
  have hx : iR x := hF.2.2.2.1 (vI x) (by simp)
  have hsh := hWo.2.2.2.2.2 q _ hq
  have hty : tyC ci f = .int := hsh.2.2 f none hv
  have hpf : parseFieldDescriptor (clT ci f).2.2.1 = some .int := by rw [ty_all ci hsh.1 f hf, hty]
  have hfl : f < (fs.mapIdx (fun i o => fV ad μ q i o)).length := by rw [List.length_mapIdx]; exact (List.getElem?_eq_some_iff.mp hv).1
  have fin : ∀ (H1 : Heap) (locs1 : List Loc), va_P D cls ((mkW S μ ad cA).set q (ad q, .inr (ci, (fs.mapIdx (fun i o => fV ad μ q i o)).set f (.int (oI x))))) H1 → va_D A ((mkW S μ ad cA).set q (ad q, .inr (ci, (fs.mapIdx (fun i o => fV ad μ q i o)).set f (.int (oI x))))) → va_S A s.heap H1 locs1 → W p l e (rmK k) s m args below meth c H1 locs1 (mC k - rc) (mS k - rs) Q (F0 m (pc + 3) lsR (st'.map (trV ad))) := by
    intro H1 locs1 hP hD hS1
    rw [mkW_fld hq hv] at hP hD
    exact kk.go ⟨hWo.1, hP, hD, hWo.2.2.2.1, hWo.2.2.2.2.1.up hx, hWo.2.2.2.2.2⟩ hS1 (hF.stk (fun v hv => hF.2.2.2.1 v (by simp [hv]))) hrc hrs
  show W p l e (rmK k) s m args below meth c H locs (mC k - rc) (mS k - rs) Q (F0 m pc lsR (.int (oI x) :: .ref (ad q) :: st'.map (trV ad)))
  by_cases hfn : (clT ci f).2.2.2 = false
  · exact va_put (C := nmC ci) (T := clT ci) (N := clN ci) (ci := ci) (ty := .int) hX.2.1 hX.2.2.1 hX.2.2.2.2.2.2.1 (fun w hw => tw_in k _ (cls_in hsh.1 w hw)) (tyC ci) (ty_all ci hsh.1) (nm_all ci hsh.1) hX.2.2.2.2.2.1 hWo.1 hWo.2.1 hWo.2.2.1 hS q (mkW_at hq) (cls_at hsh.1) f hf (hX.w hlk rfl) (fun _ h9 => h9) hfn hpf rfl rfl hfl hd fin
  · rcases hfin with h9 | ⟨h9, h8⟩
    · exact absurd h9 hfn
    · exact va_putF (C := nmC ci) (T := clT ci) (N := clN ci) (ci := ci) (ty := .int) hX.2.1 hX.2.2.1 hX.2.2.2.2.2.2.1 (fun w hw => tw_in k _ (cls_in hsh.1 w hw)) (tyC ci) (ty_all ci hsh.1) (nm_all ci hsh.1) hX.2.2.2.2.2.1 hWo.1 hWo.2.1 hWo.2.2.1 hS q (mkW_at hq) (cls_at hsh.1) f hf (hX.w hlk rfl) (fun _ h9 => h9) (by cases hz : (clT ci f).2.2.2 <;> first | exact absurd hz hfn | rfl) (hX.2.2.2.2.2.2.2.2.1 h9) h8 hpf rfl rfl hfl hd fin
theorem sn_putR {i q ci f z : Nat} {fs : List (Option (Option Nat))} {o : Option Nat} {st' : List PV} (h : Hyp p s m args meth c H locs k D S μ ad cA tys A ls (vR z :: vR q :: st') lsR rc rs) (hd : decode (mB k) pc = .ok (.putfield i, 3)) (hlk : Cond.fieldLink (nmC (mI k)) i (clT ci f).1 (clT ci f).2.1 (clT ci f).2.2.1 ∈ lw_tbl) (hf : f < clN ci) (hfin : (clT ci f).2.2.2 = false ∨ (mZ k = 1 ∧ (clT ci f).1 = nmC (mI k))) (hq : S[q]? = some (.inr (ci, fs))) (hv : fs[f]? = some (some o)) (kk : Cn p l e s m args below meth c Q k D A S.length ad cA (pc + 3) ls st' (S.set q (.inr (ci, fs.set f (some (some z)))), μ, rc, rs)) : W p l e (rmK k) s m args below meth c H locs (mC k - rc) (mS k - rs) Q (F0 m pc lsR ((vR z :: vR q :: st').map (trV ad))) := by
  obtain ⟨hX, hWo, hS, hA, hF, hrc, hrs⟩ := h
  have hz : z < S.length := hF.2.2.2.1 (vR z) (by simp)
  have hsh := hWo.2.2.2.2.2 q _ hq
  have hql : q < S.length := (List.getElem?_eq_some_iff.mp hq).1
  have hty : rfT (tyC ci f) = true := by
    have := hsh.2.2 f _ hv
    rcases o with _ | o
    · exact this
    · exact this.1
  have hpf : parseFieldDescriptor (clT ci f).2.2.1 = some (tyC ci f) := ty_all ci hsh.1 f hf
  have hfl0 : f < fs.length := (List.getElem?_eq_some_iff.mp hv).1
  have hfl : f < (fs.mapIdx (fun i o => fV ad μ q i o)).length := by rw [List.length_mapIdx]; exact hfl0
  have hTy : TyOK (S.set q (.inr (ci, fs.set f (some (some z))))) cA tys := by
    intro p2 b n h2
    by_cases hp : p2 = q
    · subst hp
      rw [List.getElem?_set_self hql] at h2
      cases h2
    · rw [List.getElem?_set_ne (Ne.symm hp)] at h2
      exact hWo.2.2.2.1 p2 b n h2
  have hSh : ShOK (S.set q (.inr (ci, fs.set f (some (some z))))) := by
    intro p2 sh h2
    rw [List.length_set]
    by_cases hp : p2 = q
    · subst hp
      rw [List.getElem?_set_self hql] at h2
      cases h2
      refine ⟨hsh.1, by rw [List.length_set]; exact hsh.2.1, fun j o2 hj => ?_⟩
      by_cases hjf : j = f
      · subst hjf
        rw [List.getElem?_set_self hfl0] at hj
        cases hj
        exact ⟨hty, hz⟩
      · rw [List.getElem?_set_ne (Ne.symm hjf)] at hj
        exact hsh.2.2 j o2 hj
    · rw [List.getElem?_set_ne (Ne.symm hp)] at h2
      exact hWo.2.2.2.2.2 p2 sh h2
  have hlen : (S.set q (.inr (ci, fs.set f (some (some z))))).length = S.length := List.length_set ..
  have fin : ∀ (H1 : Heap) (locs1 : List Loc), va_P D cls ((mkW S μ ad cA).set q (ad q, .inr (ci, (fs.mapIdx (fun i o => fV ad μ q i o)).set f (.ref (ad z))))) H1 → va_D A ((mkW S μ ad cA).set q (ad q, .inr (ci, (fs.mapIdx (fun i o => fV ad μ q i o)).set f (.ref (ad z))))) → va_S A s.heap H1 locs1 → W p l e (rmK k) s m args below meth c H1 locs1 (mC k - rc) (mS k - rs) Q (F0 m (pc + 3) lsR (st'.map (trV ad))) := by
    intro H1 locs1 hP hD hS1
    rw [mkW_ref hq] at hP hD
    exact kk ad cA tys H1 locs1 lsR (fun _ _ => ⟨rfl, rfl⟩) (by rw [hlen]; exact Nat.le_refl _) ⟨hWo.1, hP, hD, hTy, hWo.2.2.2.2.1, hSh⟩ hS1 (by rw [hlen]; exact hF.stk (fun v hv => hF.2.2.2.1 v (by simp [hv]))) hrc hrs
  show W p l e (rmK k) s m args below meth c H locs (mC k - rc) (mS k - rs) Q (F0 m pc lsR (.ref (ad z) :: .ref (ad q) :: st'.map (trV ad)))
  by_cases hfn : (clT ci f).2.2.2 = false
  · exact va_put (C := nmC ci) (T := clT ci) (N := clN ci) (ci := ci) (ty := tyC ci f) hX.2.1 hX.2.2.1 hX.2.2.2.2.2.2.1 (fun w hw => tw_in k _ (cls_in hsh.1 w hw)) (tyC ci) (ty_all ci hsh.1) (nm_all ci hsh.1) hX.2.2.2.2.2.1 hWo.1 hWo.2.1 hWo.2.2.1 hS q (mkW_at hq) (cls_at hsh.1) f hf (hX.w hlk rfl) (fun _ h9 => h9) hfn hpf (rfT_fit hty _).1 (rfT_fit hty _).2 hfl hd fin
  · rcases hfin with h9 | ⟨h9, h8⟩
    · exact absurd h9 hfn
    · exact va_putF (C := nmC ci) (T := clT ci) (N := clN ci) (ci := ci) (ty := tyC ci f) hX.2.1 hX.2.2.1 hX.2.2.2.2.2.2.1 (fun w hw => tw_in k _ (cls_in hsh.1 w hw)) (tyC ci) (ty_all ci hsh.1) (nm_all ci hsh.1) hX.2.2.2.2.2.1 hWo.1 hWo.2.1 hWo.2.2.1 hS q (mkW_at hq) (cls_at hsh.1) f hf (hX.w hlk rfl) (fun _ h9 => h9) (by cases hz : (clT ci f).2.2.2 <;> first | exact absurd hz hfn | rfl) (hX.2.2.2.2.2.2.2.2.1 h9) h8 hpf (rfT_fit hty _).1 (rfT_fit hty _).2 hfl hd fin
theorem sn_iald {q n : Nat} {i : Int} {st' : List PV} (h : Hyp p s m args meth c H locs k D S μ ad cA tys A ls (vI i :: vR q :: st') lsR rc rs) (hd : decode (mB k) pc = .ok (.iaload, 1)) (hq : S[q]? = some (.inl (false, n))) (hi : 0 ≤ i ∧ i < n) (kk : Cn p l e s m args below meth c Q k D A S.length ad cA (pc + 1) ls (vI (μ q i) :: st') (S, μ, rc, rs)) : W p l e (rmK k) s m args below meth c H locs (mC k - rc) (mS k - rs) Q (F0 m pc lsR ((vI i :: vR q :: st').map (trV ad))) := by
  obtain ⟨hX, hWo, hS, hA, hF, hrc, hrs⟩ := h
  have hx : iR i := hF.2.2.2.1 (vI i) (by simp)
  obtain ⟨t0, ht0⟩ := hWo.2.2.2.1 q false n hq
  show W p l e (rmK k) s m args below meth c H locs (mC k - rc) (mS k - rs) Q (F0 m pc lsR (.int (oI i) :: .ref (ad q) :: st'.map (trV ad)))
  refine va_iald hX.2.1 hX.2.2.1 hWo.1 hWo.2.1 q t0 (mkW_at hq) ht0 (oI_in hx hi) hd ?_
  refine kk.go hWo hS (hF.stk (fun w hw => by
    rcases List.mem_cons.mp hw with rfl | hw
    · exact hWo.2.2.2.2.1 q i
    · exact hF.2.2.2.1 w (by simp [hw]))) hrc hrs ?_
  show Value.int (oI (μ q i)) :: _ = Value.int (oI (μ q (((oI i).toNatClampNeg : Nat) : Int))) :: _
  rw [oI_cl hx, Int.toNat_of_nonneg hi.1]
theorem sn_bald {q n : Nat} {i : Int} {st' : List PV} (h : Hyp p s m args meth c H locs k D S μ ad cA tys A ls (vI i :: vR q :: st') lsR rc rs) (hd : decode (mB k) pc = .ok (.baload, 1)) (hq : S[q]? = some (.inl (true, n))) (hi : 0 ≤ i ∧ i < n) (kk : Cn p l e s m args below meth c Q k D A S.length ad cA (pc + 1) ls (vI (μ q i) :: st') (S, μ, rc, rs)) : W p l e (rmK k) s m args below meth c H locs (mC k - rc) (mS k - rs) Q (F0 m pc lsR ((vI i :: vR q :: st').map (trV ad))) := by
  obtain ⟨hX, hWo, hS, hA, hF, hrc, hrs⟩ := h
  have hx : iR i := hF.2.2.2.1 (vI i) (by simp)
  obtain ⟨t0, ht0⟩ := hWo.2.2.2.1 q true n hq
  show W p l e (rmK k) s m args below meth c H locs (mC k - rc) (mS k - rs) Q (F0 m pc lsR (.int (oI i) :: .ref (ad q) :: st'.map (trV ad)))
  refine va_zald hX.2.1 hX.2.2.1 hWo.1 hWo.2.1 q t0 (mkW_at hq) ht0 (oI_in hx hi) hd ?_
  refine kk.go hWo hS (hF.stk (fun w hw => by
    rcases List.mem_cons.mp hw with rfl | hw
    · exact hWo.2.2.2.2.1 q i
    · exact hF.2.2.2.1 w (by simp [hw]))) hrc hrs ?_
  show Value.int (oI (μ q i)) :: _ = Value.int (oI (μ q (((oI i).toNatClampNeg : Nat) : Int))) :: _
  rw [oI_cl hx, Int.toNat_of_nonneg hi.1]
theorem sn_iast {q n : Nat} {i x : Int} {st' : List PV} (h : Hyp p s m args meth c H locs k D S μ ad cA tys A ls (vI x :: vI i :: vR q :: st') lsR rc rs) (hd : decode (mB k) pc = .ok (.iastore, 1)) (hq : S[q]? = some (.inl (false, n))) (hi : 0 ≤ i ∧ i < n) (kk : Cn p l e s m args below meth c Q k D A S.length ad cA (pc + 1) ls st' (S, u2 μ q i x, rc, rs)) : W p l e (rmK k) s m args below meth c H locs (mC k - rc) (mS k - rs) Q (F0 m pc lsR ((vI x :: vI i :: vR q :: st').map (trV ad))) := by
  obtain ⟨hX, hWo, hS, hA, hF, hrc, hrs⟩ := h
  have hi0 : iR i := hF.2.2.2.1 (vI i) (by simp)
  have hx : iR x := hF.2.2.2.1 (vI x) (by simp)
  obtain ⟨t0, ht0⟩ := hWo.2.2.2.1 q false n hq
  show W p l e (rmK k) s m args below meth c H locs (mC k - rc) (mS k - rs) Q (F0 m pc lsR (.int (oI x) :: .int (oI i) :: .ref (ad q) :: st'.map (trV ad)))
  refine va_iast hX.2.1 hX.2.2.1 hWo.1 hWo.2.1 hWo.2.2.1 hS q t0 (mkW_at hq) ht0 (oI_in hi0 hi) hd (fun H1 locs1 hP hD hS1 => ?_)
  rw [oI_cl hi0, mkW_arr hq hi.1 rfl] at hP hD
  exact kk.go ⟨hWo.1, hP, hD, hWo.2.2.2.1, hWo.2.2.2.2.1.up hx, hWo.2.2.2.2.2⟩ hS1 (hF.stk (fun v hv => hF.2.2.2.1 v (by simp [hv]))) hrc hrs
theorem sn_bast {q n : Nat} {i x : Int} {st' : List PV} (h : Hyp p s m args meth c H locs k D S μ ad cA tys A ls (vI x :: vI i :: vR q :: st') lsR rc rs) (hd : decode (mB k) pc = .ok (.bastore, 1)) (hq : S[q]? = some (.inl (true, n))) (hi : (0 ≤ i ∧ i < n) ∧ (x = 0 ∨ x = 1)) (kk : Cn p l e s m args below meth c Q k D A S.length ad cA (pc + 1) ls st' (S, u2 μ q i x, rc, rs)) : W p l e (rmK k) s m args below meth c H locs (mC k - rc) (mS k - rs) Q (F0 m pc lsR ((vI x :: vI i :: vR q :: st').map (trV ad))) := by
  obtain ⟨hX, hWo, hS, hA, hF, hrc, hrs⟩ := h
  have hi0 : iR i := hF.2.2.2.1 (vI i) (by simp)
  have hx : iR x := hF.2.2.2.1 (vI x) (by simp)
  obtain ⟨t0, ht0⟩ := hWo.2.2.2.1 q true n hq
  show W p l e (rmK k) s m args below meth c H locs (mC k - rc) (mS k - rs) Q (F0 m pc lsR (.int (oI x) :: .int (oI i) :: .ref (ad q) :: st'.map (trV ad)))
  refine va_zast hX.2.1 hX.2.2.1 hWo.1 hWo.2.1 hWo.2.2.1 hS q t0 (mkW_at hq) ht0 (oI_in hi0 hi.1) hd (fun H1 locs1 hP hD hS1 => ?_)
  have hb : vp_nar .boolean (oI x) = oI x := oI_bit hi.2
  rw [oI_cl hi0, mkW_arr hq hi.1.1 hb] at hP hD
  exact kk.go ⟨hWo.1, hP, hD, hWo.2.2.2.1, hWo.2.2.2.2.1.up hx, hWo.2.2.2.2.2⟩ hS1 (hF.stk (fun v hv => hF.2.2.2.1 v (by simp [hv]))) hrc hrs
end SNM
