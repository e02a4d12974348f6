/-! memory, and the worlds of the kit -/
theorem mkW_arr {S : List Shp} {μ : Mu} {ad : Nat → Nat} {cA : Nat → ClassId} {p n : Nat} {b : Bool} (h : S[p]? = some (.inl (b, n))) {i x : Int} (hi : 0 ≤ i) {z : Int32} (hz : z = oI x) : (mkW S μ ad cA).set p (ad p, .inl (cA p, n, .inl (upd (fun j => oI (μ p (j : Int))) i.toNat z))) = mkW S (u2 μ p i x) ad cA := by
  subst hz
  refine mkW_ext (by rw [List.length_set, mkW_len]) (fun q sh hq => ?_)
  have hl : p < (mkW S μ ad cA).length := by rw [mkW_len]; exact (List.getElem?_eq_some_iff.mp h).1
  by_cases hpq : q = p
  · subst hpq
    rw [List.getElem?_set_self hl]
    rw [h] at hq
    cases hq
    refine congrArg some (congrArg (Prod.mk _) ?_)
    show (Sum.inl _ : va_E) = Sum.inl _
    refine congrArg Sum.inl (congrArg (Prod.mk _) (congrArg (Prod.mk _) (congrArg Sum.inl (funext fun j => ?_))))
    show (if j = i.toNat then oI x else oI (μ q (j : Int))) = oI (u2 μ q i x q (j : Int))
    unfold u2
    rw [if_pos rfl]
    by_cases hj : j = i.toNat
    · rw [if_pos hj, if_pos (by omega)]
    · rw [if_neg hj, if_neg (by omega)]
  · rw [List.getElem?_set_ne (Ne.symm hpq), mkW_at hq]
    refine congrArg some (congrArg (Prod.mk _) ?_)
    have e : u2 μ p i x q = μ q := by unfold u2; rw [if_neg hpq]
    rcases sh with sh | sh
    · show (Sum.inl _ : va_E) = Sum.inl _
      rw [e]
    · show (Sum.inr _ : va_E) = Sum.inr _
      refine congrArg Sum.inr (congrArg (Prod.mk _) ?_)
      refine congrArg (fun f => sh.2.mapIdx f) (funext fun i2 => funext fun o => ?_)
      rcases o with _ | _ | o
      · show Value.int _ = Value.int _
        rw [e]
      · rfl
      · rfl
theorem mkW_fld {S : List Shp} {μ : Mu} {ad : Nat → Nat} {cA : Nat → ClassId} {p ci b : Nat} {fs : List (Option (Option Nat))} (h : S[p]? = some (.inr (ci, fs))) (hb : fs[b]? = some none) {x : Int} : (mkW S μ ad cA).set p (ad p, .inr (ci, (fs.mapIdx (fun i o => fV ad μ p i o)).set b (.int (oI x)))) = mkW S (u2 μ p b x) ad cA := by
  refine mkW_ext (by rw [List.length_set, mkW_len]) (fun q sh hq => ?_)
  have hl : p < (mkW S μ ad cA).length := by rw [mkW_len]; exact (List.getElem?_eq_some_iff.mp h).1
  by_cases hpq : q = p
  · subst hpq
    rw [List.getElem?_set_self hl]
    rw [h] at hq
    cases hq
    refine congrArg some (congrArg (Prod.mk _) ?_)
    show (Sum.inr _ : va_E) = Sum.inr _
    refine congrArg Sum.inr (congrArg (Prod.mk _) ?_)
    apply List.ext_getElem?
    intro j
    have hbl : b < fs.length := (List.getElem?_eq_some_iff.mp hb).1
    by_cases hj : j = b
    · subst hj
      rw [List.getElem?_set_self (by rw [List.length_mapIdx]; exact hbl), List.getElem?_mapIdx, hb]
      show some (Value.int (oI x)) = some (Value.int (oI (u2 μ q j x q j)))
      unfold u2
      rw [if_pos rfl, if_pos rfl]
    · rw [List.getElem?_set_ne (Ne.symm hj), List.getElem?_mapIdx, List.getElem?_mapIdx]
      rcases ho : fs[j]? with _ | o
      · rfl
      · rcases o with _ | _ | o
        · show some (Value.int (oI (μ q j))) = some (Value.int (oI (u2 μ q b x q j)))
          unfold u2
          rw [if_pos rfl, if_neg (by omega)]
        · rfl
        · rfl
  · rw [List.getElem?_set_ne (Ne.symm hpq), mkW_at hq]
    refine congrArg some (congrArg (Prod.mk _) ?_)
    have e : u2 μ p b x q = μ q := by unfold u2; rw [if_neg hpq]
    rcases sh with sh | sh
    · show (Sum.inl _ : va_E) = Sum.inl _
      rw [e]
    · show (Sum.inr _ : va_E) = Sum.inr _
      refine congrArg Sum.inr (congrArg (Prod.mk _) ?_)
      refine congrArg (fun f => sh.2.mapIdx f) (funext fun i2 => funext fun o => ?_)
      rcases o with _ | _ | o
      · show Value.int _ = Value.int _
        rw [e]
      · rfl
      · rfl
theorem mkW_ref {S : List Shp} {μ : Mu} {ad : Nat → Nat} {cA : Nat → ClassId} {p ci b z : Nat} {fs : List (Option (Option Nat))} (h : S[p]? = some (.inr (ci, fs))) : (mkW S μ ad cA).set p (ad p, .inr (ci, (fs.mapIdx (fun i o => fV ad μ p i o)).set b (.ref (ad z)))) = mkW (S.set p (.inr (ci, fs.set b (some (some z))))) μ ad cA := by
  refine mkW_ext (by rw [List.length_set, mkW_len, List.length_set]) (fun q sh hq => ?_)
  have hl0 : p < S.length := (List.getElem?_eq_some_iff.mp h).1
  have hl : p < (mkW S μ ad cA).length := by rw [mkW_len]; exact hl0
  by_cases hpq : q = p
  · subst hpq
    rw [List.getElem?_set_self hl]
    rw [List.getElem?_set_self hl0] at hq
    cases hq
    refine congrArg some (congrArg (Prod.mk _) ?_)
    show (Sum.inr _ : va_E) = Sum.inr _
    refine congrArg Sum.inr (congrArg (Prod.mk _) ?_)
    apply List.ext_getElem?
    intro j
    rw [List.getElem?_mapIdx]
    by_cases hj : j = b
    · subst hj
      by_cases hbl : j < fs.length
      · rw [List.getElem?_set_self (by rw [List.length_mapIdx]; exact hbl), List.getElem?_set_self hbl]
        rfl
      · rw [List.getElem?_eq_none_iff.mpr (by rw [List.length_set, List.length_mapIdx]; omega), List.getElem?_eq_none_iff.mpr (by rw [List.length_set]; omega)]
        rfl
    · rw [List.getElem?_set_ne (Ne.symm hj), List.getElem?_mapIdx, List.getElem?_set_ne (Ne.symm hj)]
  · rw [List.getElem?_set_ne (Ne.symm hpq)]
    rw [List.getElem?_set_ne (Ne.symm hpq)] at hq
    rw [mkW_at hq]
theorem mkW_cpy {S : List Shp} {μ : Mu} {ad : Nat → Nat} {cA : Nat → ClassId} {p q n1 : Nat} {b : Bool} (h : S[q]? = some (.inl (b, n1))) {sp dp n : Int} (h1 : 0 ≤ sp) (h2 : 0 ≤ dp) (h3 : 0 ≤ n) : (mkW S μ ad cA).set q (ad q, .inl (cA q, n1, .inl (va_cpy (fun j => oI (μ p (j : Int))) (fun j => oI (μ q (j : Int))) sp.toNat dp.toNat n.toNat))) = mkW S (cpM μ p q sp dp n) ad cA := by
  refine mkW_ext (by rw [List.length_set, mkW_len]) (fun z sh hq => ?_)
  have hl : q < (mkW S μ ad cA).length := by rw [mkW_len]; exact (List.getElem?_eq_some_iff.mp h).1
  by_cases hpq : z = q
  · subst hpq
    rw [List.getElem?_set_self hl]
    rw [h] at hq
    cases hq
    refine congrArg some (congrArg (Prod.mk _) ?_)
    show (Sum.inl _ : va_E) = Sum.inl _
    refine congrArg Sum.inl (congrArg (Prod.mk _) (congrArg (Prod.mk _) (congrArg Sum.inl (funext fun j => ?_))))
    show (if dp.toNat ≤ j ∧ j < dp.toNat + n.toNat then oI (μ p ((sp.toNat + (j - dp.toNat) : Nat) : Int)) else oI (μ z (j : Int))) = oI (cpM μ p z sp dp n z (j : Int))
    unfold cpM
    rw [if_pos rfl]
    by_cases hj : dp.toNat ≤ j ∧ j < dp.toNat + n.toNat
    · rw [if_pos hj, if_pos (by omega)]
      congr 2
      omega
    · rw [if_neg hj, if_neg (by omega)]
  · rw [List.getElem?_set_ne (Ne.symm hpq), mkW_at hq]
    refine congrArg some (congrArg (Prod.mk _) ?_)
    have e : cpM μ p q sp dp n z = μ z := by unfold cpM; rw [if_neg hpq]
    rcases sh with sh | sh
    · show (Sum.inl _ : va_E) = Sum.inl _
      rw [e]
    · show (Sum.inr _ : va_E) = Sum.inr _
      refine congrArg Sum.inr (congrArg (Prod.mk _) ?_)
      refine congrArg (fun f => sh.2.mapIdx f) (funext fun i2 => funext fun o => ?_)
      rcases o with _ | _ | o
      · show Value.int _ = Value.int _
        rw [e]
      · rfl
      · rfl
def upA {α : Type} (f : Nat → α) (n : Nat) (x : α) : Nat → α := fun q => if q = n then x else f q
theorem upA_lt {α : Type} {f : Nat → α} {n : Nat} {x : α} {q : Nat} (h : q < n) : upA f n x q = f q := if_neg (Nat.ne_of_lt h)
theorem upA_self {α : Type} {f : Nat → α} {n : Nat} {x : α} : upA f n x n = x := if_pos rfl
theorem mkW_push {S : List Shp} {μ : Mu} {ad : Nat → Nat} {cA : Nat → ClassId} {sh : Shp} {a : Nat} {cl : ClassId} {e : va_E} (hOK : ShOK S) (he : e = mkE (upA ad S.length a) (upA cA S.length cl) (u0 μ S.length) S.length sh) : mkW S μ ad cA ++ [(a, e)] = mkW (S ++ [sh]) (u0 μ S.length) (upA ad S.length a) (upA cA S.length cl) := by
  refine mkW_ext (by simp [mkW_len]) (fun q x hq => ?_)
  by_cases hl : q < S.length
  · rw [List.getElem?_append_left hl] at hq
    rw [List.getElem?_append_left (by rw [mkW_len]; exact hl), mkW_at hq, upA_lt hl]
    refine congrArg some (congrArg (Prod.mk _) ?_)
    have e1 : u0 μ S.length q = μ q := by unfold u0; rw [if_neg (Nat.ne_of_lt hl)]
    have ok := hOK q x hq
    rcases x with x | x
    · show (Sum.inl _ : va_E) = Sum.inl _
      rw [e1, upA_lt hl]
    · show (Sum.inr _ : va_E) = Sum.inr _
      refine congrArg Sum.inr (congrArg (Prod.mk _) ?_)
      apply List.ext_getElem?
      intro i
      rw [List.getElem?_mapIdx, List.getElem?_mapIdx]
      rcases ho : x.2[i]? with _ | o
      · rfl
      · have ok2 := ok.2.2 i o ho
        rcases o with _ | _ | o
        · show some (Value.int _) = some (Value.int _)
          rw [e1]
        · rfl
        · show some (Value.ref _) = some (Value.ref _)
          rw [upA_lt ok2.2]
  · have hq2 : q = S.length := by
      have := (List.getElem?_eq_some_iff.mp hq).1
      simp at this
      omega
    subst hq2
    have e2 : (S ++ [sh])[S.length]? = some sh := by simp
    rw [e2] at hq
    cases hq
    rw [upA_self, he]
    simp [mkW_len]
theorem RgM.up {μ : Mu} (h : RgM μ) {p : Nat} {i x : Int} (hx : iR x) : RgM (u2 μ p i x) := by
  intro q j
  unfold u2
  by_cases hq : q = p
  · rw [if_pos hq]
    show iR (if j = i then x else μ p j)
    by_cases hj : j = i
    · rw [if_pos hj]; exact hx
    · rw [if_neg hj]; exact h p j
  · rw [if_neg hq]; exact h q j
theorem RgM.zo {μ : Mu} (h : RgM μ) {p : Nat} : RgM (u0 μ p) := by
  intro q j
  unfold u0
  by_cases hq : q = p
  · rw [if_pos hq]; show iR 0; decide
  · rw [if_neg hq]; exact h q j
theorem RgM.cp {μ : Mu} (h : RgM μ) {p q : Nat} {a b n : Int} : RgM (cpM μ p q a b n) := by
  intro z j
  unfold cpM
  by_cases hq : z = q
  · rw [if_pos hq]
    show iR (if b ≤ j ∧ j < b + n then μ p (a + (j - b)) else μ q j)
    by_cases hj : b ≤ j ∧ j < b + n
    · rw [if_pos hj]; exact h p _
    · rw [if_neg hj]; exact h q j
  · rw [if_neg hq]; exact h z j

section SND
variable {p : Program} {l : Launch} {e : Env} {s : State} {m : MethodId} {args : Array Value} {below : List Frame} {meth : Method} {c : Code} {H : Heap} {locs : List Loc} {Q : State → Prop} {k pc : Nat} {D : va_G} {S : List Shp} {μ : Mu} {ad : Nat → Nat} {cA : Nat → ClassId} {tys : List (ClassId × FieldType)} {A : Nat → Prop} {ls : Lo} {st : List PV} {lsR : Array Slot} {rc rs : Nat}
/-- the words of a frame, any by its place -/
theorem Fx.w (h : Fx p s m args meth c k) {w : Cond} (hm : w ∈ lw_tbl) (g : goodWord w = true) : w.before args s = true := h.2.2.2.2.2.2.1 w (tw_in k _ (tw_mem hm g))
/-- what a step leaves to be shown: the next state's own walk, at whatever addresses new cells got -/
def Cn (p : Program) (l : Launch) (e : Env) (s : State) (m : MethodId) (args : Array Value) (below : List Frame) (meth : Method) (c : Code) (Q : State → Prop) (k : Nat) (D : va_G) (A : Nat → Prop) (n0 : Nat) (ad : Nat → Nat) (cA : Nat → ClassId) (pc' : Nat) (ls' : Lo) (st' : List PV) (M : Mem) : Prop :=
  ∀ (ad' : Nat → Nat) (cA' : Nat → ClassId) (tys' : List (ClassId × FieldType)) (H' : Heap) (locs' : List Loc) (lsR' : Array Slot), (∀ x, x < n0 → ad' x = ad x ∧ cA' x = cA x) → n0 ≤ M.1.length → Wo D M.1 M.2.1 ad' cA' tys' A s H' → va_S A s.heap H' locs' → Fs ad' k M.1.length ls' st' lsR' → M.2.2.1 ≤ mC k → M.2.2.2 ≤ mS k → W p l e (rmK k) s m args below meth c H' locs' (mC k - M.2.2.1) (mS k - M.2.2.2) Q (F0 m pc' lsR' (st'.map (trV ad')))
theorem Cn.go {ls' : Lo} {st' : List PV} {pc' : Nat} {μ' : Mu} {stR : List Value} {cells slots : Nat} (h : Cn p l e s m args below meth c Q k D A S.length ad cA pc' ls' st' (S, μ', rc, rs)) (hWo : Wo D S μ' ad cA tys A s H) (hS : va_S A s.heap H locs) (hF : Fs ad k S.length ls' st' lsR) (hrc : rc ≤ mC k) (hrs : rs ≤ mS k) (hst : st'.map (trV ad) = stR := by rfl) (hc : mC k - rc = cells := by rfl) (hs : mS k - rs = slots := by rfl) : W p l e (rmK k) s m args below meth c H locs cells slots Q (F0 m pc' lsR stR) := by
  subst hst; subst hc; subst hs
  exact h ad cA tys H locs lsR (fun _ _ => ⟨rfl, rfl⟩) (Nat.le_refl _) hWo hS hF hrc hrs
abbrev Hyp (p : Program) (s : State) (m : MethodId) (args : Array Value) (meth : Method) (c : Code) (H : Heap) (locs : List Loc) (k : Nat) (D : va_G) (S : List Shp) (μ : Mu) (ad : Nat → Nat) (cA : Nat → ClassId) (tys : List (ClassId × FieldType)) (A : Nat → Prop) (ls : Lo) (st : List PV) (lsR : Array Slot) (rc rs : Nat) : Prop :=
  Fx p s m args meth c k ∧ Wo D S μ ad cA tys A s H ∧ va_S A s.heap H locs ∧ (∀ q, s.heap.size ≤ q → A q) ∧ Fs ad k S.length ls st lsR ∧ rc ≤ mC k ∧ rs ≤ mS k
theorem Hyp.ok {st2 : List PV} {v : PV} (h : Hyp p s m args meth c H locs k D S μ ad cA tys A ls st lsR rc rs) (hv : v ∈ st) : okV S.length v := h.2.2.2.2.1.2.2.2.1 v hv

theorem sn_iadd {x y : Int} {st' : List PV} (h : Hyp p s m args meth c H locs k D S μ ad cA tys A ls (vI y :: vI x :: st') lsR rc rs) (hd : decode (mB k) pc = .ok (.iadd, 1)) (hq : iR (x + y)) (kk : Cn p l e s m args below meth c Q k D A S.length ad cA (pc + 1) ls (vI (x + y) :: st') (S, μ, rc, rs)) : W p l e (rmK k) s m args below meth c H locs (mC k - rc) (mS k - rs) Q (F0 m pc lsR ((vI y :: vI x :: st').map (trV ad))) := by
  obtain ⟨hX, hWo, hS, hA, hF, hrc, hrs⟩ := h
  have hy : iR y := hF.2.2.2.1 (vI y) (by simp)
  have hx : iR x := hF.2.2.2.1 (vI x) (by simp)
  have hr : iR (x + y) := by first | exact hq | exact hq
  show W p l e (rmK k) s m args below meth c H locs (mC k - rc) (mS k - rs) Q (F0 m pc lsR (.int (oI y) :: .int (oI x) :: st'.map (trV ad)))
  refine lv_iadd hX.2.1 hX.2.2.1 hd ?_
  rw [← oI_add]
  exact kk.go hWo hS (hF.stk (fun v hv => by
    rcases List.mem_cons.mp hv with rfl | hv
    · exact hr
    · exact hF.2.2.2.1 v (by simp [hv]))) hrc hrs
theorem sn_isub {x y : Int} {st' : List PV} (h : Hyp p s m args meth c H locs k D S μ ad cA tys A ls (vI y :: vI x :: st') lsR rc rs) (hd : decode (mB k) pc = .ok (.isub, 1)) (hq : iR (x - y)) (kk : Cn p l e s m args below meth c Q k D A S.length ad cA (pc + 1) ls (vI (x - y) :: st') (S, μ, rc, rs)) : W p l e (rmK k) s m args below meth c H locs (mC k - rc) (mS k - rs) Q (F0 m pc lsR ((vI y :: vI x :: st').map (trV ad))) := by
  obtain ⟨hX, hWo, hS, hA, hF, hrc, hrs⟩ := h
  have hy : iR y := hF.2.2.2.1 (vI y) (by simp)
  have hx : iR x := hF.2.2.2.1 (vI x) (by simp)
  have hr : iR (x - y) := by first | exact hq | exact hq
  show W p l e (rmK k) s m args below meth c H locs (mC k - rc) (mS k - rs) Q (F0 m pc lsR (.int (oI y) :: .int (oI x) :: st'.map (trV ad)))
  refine lv_isub hX.2.1 hX.2.2.1 hd ?_
  rw [← oI_sub]
  exact kk.go hWo hS (hF.stk (fun v hv => by
    rcases List.mem_cons.mp hv with rfl | hv
    · exact hr
    · exact hF.2.2.2.1 v (by simp [hv]))) hrc hrs
theorem sn_imul {x y : Int} {st' : List PV} (h : Hyp p s m args meth c H locs k D S μ ad cA tys A ls (vI y :: vI x :: st') lsR rc rs) (hd : decode (mB k) pc = .ok (.imul, 1)) (hq : iR (x * y)) (kk : Cn p l e s m args below meth c Q k D A S.length ad cA (pc + 1) ls (vI (x * y) :: st') (S, μ, rc, rs)) : W p l e (rmK k) s m args below meth c H locs (mC k - rc) (mS k - rs) Q (F0 m pc lsR ((vI y :: vI x :: st').map (trV ad))) := by
  obtain ⟨hX, hWo, hS, hA, hF, hrc, hrs⟩ := h
  have hy : iR y := hF.2.2.2.1 (vI y) (by simp)
  have hx : iR x := hF.2.2.2.1 (vI x) (by simp)
  have hr : iR (x * y) := by first | exact hq | exact hq
  show W p l e (rmK k) s m args below meth c H locs (mC k - rc) (mS k - rs) Q (F0 m pc lsR (.int (oI y) :: .int (oI x) :: st'.map (trV ad)))
  refine lv_imul hX.2.1 hX.2.2.1 hd ?_
  rw [← oI_mul]
  exact kk.go hWo hS (hF.stk (fun v hv => by
    rcases List.mem_cons.mp hv with rfl | hv
    · exact hr
    · exact hF.2.2.2.1 v (by simp [hv]))) hrc hrs
theorem sn_idiv {x y : Int} {st' : List PV} (h : Hyp p s m args meth c H locs k D S μ ad cA tys A ls (vI y :: vI x :: st') lsR rc rs) (hd : decode (mB k) pc = .ok (.idiv, 1)) (hq : 0 ≤ x ∧ 0 < y) (kk : Cn p l e s m args below meth c Q k D A S.length ad cA (pc + 1) ls (vI (x / y) :: st') (S, μ, rc, rs)) : W p l e (rmK k) s m args below meth c H locs (mC k - rc) (mS k - rs) Q (F0 m pc lsR ((vI y :: vI x :: st').map (trV ad))) := by
  obtain ⟨hX, hWo, hS, hA, hF, hrc, hrs⟩ := h
  have hy : iR y := hF.2.2.2.1 (vI y) (by simp)
  have hx : iR x := hF.2.2.2.1 (vI x) (by simp)
  have hr : iR (x / y) := by first | exact hq | (have h1 := Int.ediv_nonneg hq.1 (Int.le_of_lt hq.2); have h2 := Int.ediv_le_self y hq.1; show iR (x / y); constructor <;> omega)
  show W p l e (rmK k) s m args below meth c H locs (mC k - rc) (mS k - rs) Q (F0 m pc lsR (.int (oI y) :: .int (oI x) :: st'.map (trV ad)))
  refine lv_idiv hX.2.1 hX.2.2.1 hd (fun z => by rw [← oI_0, oI_eq hy (by decide)] at z; omega) ?_
  rw [← oI_div hx hy hq]
  exact kk.go hWo hS (hF.stk (fun v hv => by
    rcases List.mem_cons.mp hv with rfl | hv
    · exact hr
    · exact hF.2.2.2.1 v (by simp [hv]))) hrc hrs
theorem sn_irem {x y : Int} {st' : List PV} (h : Hyp p s m args meth c H locs k D S μ ad cA tys A ls (vI y :: vI x :: st') lsR rc rs) (hd : decode (mB k) pc = .ok (.irem, 1)) (hq : 0 ≤ x ∧ 0 < y) (kk : Cn p l e s m args below meth c Q k D A S.length ad cA (pc + 1) ls (vI (x % y) :: st') (S, μ, rc, rs)) : W p l e (rmK k) s m args below meth c H locs (mC k - rc) (mS k - rs) Q (F0 m pc lsR ((vI y :: vI x :: st').map (trV ad))) := by
  obtain ⟨hX, hWo, hS, hA, hF, hrc, hrs⟩ := h
  have hy : iR y := hF.2.2.2.1 (vI y) (by simp)
  have hx : iR x := hF.2.2.2.1 (vI x) (by simp)
  have hr : iR (x % y) := by first | exact hq | (have h1 := Int.emod_nonneg x (Int.ne_of_gt hq.2); have h2 := Int.emod_lt_of_pos x hq.2; show iR (x % y); constructor <;> omega)
  show W p l e (rmK k) s m args below meth c H locs (mC k - rc) (mS k - rs) Q (F0 m pc lsR (.int (oI y) :: .int (oI x) :: st'.map (trV ad)))
  refine lv_irem hX.2.1 hX.2.2.1 hd (fun z => by rw [← oI_0, oI_eq hy (by decide)] at z; omega) ?_
  rw [← oI_rem hx hy hq]
  exact kk.go hWo hS (hF.stk (fun v hv => by
    rcases List.mem_cons.mp hv with rfl | hv
    · exact hr
    · exact hF.2.2.2.1 v (by simp [hv]))) hrc hrs
theorem sn_ishl {x y : Int} {st' : List PV} (h : Hyp p s m args meth c H locs k D S μ ad cA tys A ls (vI y :: vI x :: st') lsR rc rs) (hd : decode (mB k) pc = .ok (.ishl, 1)) (hq : 0 ≤ x ∧ 0 ≤ y ∧ y < 31 ∧ x * 2 ^ y.toNat ≤ 2147483647) (kk : Cn p l e s m args below meth c Q k D A S.length ad cA (pc + 1) ls (vI (x * 2 ^ y.toNat) :: st') (S, μ, rc, rs)) : W p l e (rmK k) s m args below meth c H locs (mC k - rc) (mS k - rs) Q (F0 m pc lsR ((vI y :: vI x :: st').map (trV ad))) := by
  obtain ⟨hX, hWo, hS, hA, hF, hrc, hrs⟩ := h
  have hy : iR y := hF.2.2.2.1 (vI y) (by simp)
  have hx : iR x := hF.2.2.2.1 (vI x) (by simp)
  have hr : iR (x * 2 ^ y.toNat) := by first | exact hq | (have h1 : 0 ≤ x * 2 ^ y.toNat := Int.mul_nonneg hq.1 (Int.pow_nonneg (by decide)); show iR (x * 2 ^ y.toNat); constructor <;> omega)
  show W p l e (rmK k) s m args below meth c H locs (mC k - rc) (mS k - rs) Q (F0 m pc lsR (.int (oI y) :: .int (oI x) :: st'.map (trV ad)))
  refine lv_ishl hX.2.1 hX.2.2.1 hd ?_
  rw [← oI_shl hx hq]
  exact kk.go hWo hS (hF.stk (fun v hv => by
    rcases List.mem_cons.mp hv with rfl | hv
    · exact hr
    · exact hF.2.2.2.1 v (by simp [hv]))) hrc hrs
theorem sn_ishr {x y : Int} {st' : List PV} (h : Hyp p s m args meth c H locs k D S μ ad cA tys A ls (vI y :: vI x :: st') lsR rc rs) (hd : decode (mB k) pc = .ok (.ishr, 1)) (hq : 0 ≤ x ∧ 0 ≤ y ∧ y < 31) (kk : Cn p l e s m args below meth c Q k D A S.length ad cA (pc + 1) ls (vI (x / 2 ^ y.toNat) :: st') (S, μ, rc, rs)) : W p l e (rmK k) s m args below meth c H locs (mC k - rc) (mS k - rs) Q (F0 m pc lsR ((vI y :: vI x :: st').map (trV ad))) := by
  obtain ⟨hX, hWo, hS, hA, hF, hrc, hrs⟩ := h
  have hy : iR y := hF.2.2.2.1 (vI y) (by simp)
  have hx : iR x := hF.2.2.2.1 (vI x) (by simp)
  have hr : iR (x / 2 ^ y.toNat) := by first | exact hq | (have h1 := Int.ediv_nonneg hq.1 (Int.pow_nonneg (by decide) : (0 : Int) ≤ 2 ^ y.toNat); have h2 := Int.ediv_le_self (2 ^ y.toNat) hq.1; show iR (x / 2 ^ y.toNat); constructor <;> omega)
  show W p l e (rmK k) s m args below meth c H locs (mC k - rc) (mS k - rs) Q (F0 m pc lsR (.int (oI y) :: .int (oI x) :: st'.map (trV ad)))
  refine lv_ishr hX.2.1 hX.2.2.1 hd ?_
  rw [← oI_shr hx hq]
  exact kk.go hWo hS (hF.stk (fun v hv => by
    rcases List.mem_cons.mp hv with rfl | hv
    · exact hr
    · exact hF.2.2.2.1 v (by simp [hv]))) hrc hrs
theorem sn_iand {x y : Int} {st' : List PV} (h : Hyp p s m args meth c H locs k D S μ ad cA tys A ls (vI y :: vI x :: st') lsR rc rs) (hd : decode (mB k) pc = .ok (.iand, 1)) (hq : 0 ≤ x ∧ 0 ≤ y) (kk : Cn p l e s m args below meth c Q k D A S.length ad cA (pc + 1) ls (vI (((x.toNat &&& y.toNat : Nat) : Int)) :: st') (S, μ, rc, rs)) : W p l e (rmK k) s m args below meth c H locs (mC k - rc) (mS k - rs) Q (F0 m pc lsR ((vI y :: vI x :: st').map (trV ad))) := by
  obtain ⟨hX, hWo, hS, hA, hF, hrc, hrs⟩ := h
  have hy : iR y := hF.2.2.2.1 (vI y) (by simp)
  have hx : iR x := hF.2.2.2.1 (vI x) (by simp)
  have hr : iR (((x.toNat &&& y.toNat : Nat) : Int)) := by first | exact hq | (have h1 : x.toNat &&& y.toNat ≤ x.toNat := Nat.and_le_left; show iR ((x.toNat &&& y.toNat : Nat) : Int); constructor <;> omega)
  show W p l e (rmK k) s m args below meth c H locs (mC k - rc) (mS k - rs) Q (F0 m pc lsR (.int (oI y) :: .int (oI x) :: st'.map (trV ad)))
  refine lv_iand hX.2.1 hX.2.2.1 hd ?_
  rw [← oI_and hx hy hq]
  exact kk.go hWo hS (hF.stk (fun v hv => by
    rcases List.mem_cons.mp hv with rfl | hv
    · exact hr
    · exact hF.2.2.2.1 v (by simp [hv]))) hrc hrs
theorem sn_ior {x y : Int} {st' : List PV} (h : Hyp p s m args meth c H locs k D S μ ad cA tys A ls (vI y :: vI x :: st') lsR rc rs) (hd : decode (mB k) pc = .ok (.ior, 1)) (hq : 0 ≤ x ∧ 0 ≤ y) (kk : Cn p l e s m args below meth c Q k D A S.length ad cA (pc + 1) ls (vI (((x.toNat ||| y.toNat : Nat) : Int)) :: st') (S, μ, rc, rs)) : W p l e (rmK k) s m args below meth c H locs (mC k - rc) (mS k - rs) Q (F0 m pc lsR ((vI y :: vI x :: st').map (trV ad))) := by
  obtain ⟨hX, hWo, hS, hA, hF, hrc, hrs⟩ := h
  have hy : iR y := hF.2.2.2.1 (vI y) (by simp)
  have hx : iR x := hF.2.2.2.1 (vI x) (by simp)
  have hr : iR (((x.toNat ||| y.toNat : Nat) : Int)) := by first | exact hq | (have h1 : x.toNat ||| y.toNat < 2 ^ 31 := or_lt31 (by omega) (by omega); show iR ((x.toNat ||| y.toNat : Nat) : Int); constructor <;> omega)
  show W p l e (rmK k) s m args below meth c H locs (mC k - rc) (mS k - rs) Q (F0 m pc lsR (.int (oI y) :: .int (oI x) :: st'.map (trV ad)))
  refine lv_ior hX.2.1 hX.2.2.1 hd ?_
  rw [← oI_or hx hy hq]
  exact kk.go hWo hS (hF.stk (fun v hv => by
    rcases List.mem_cons.mp hv with rfl | hv
    · exact hr
    · exact hF.2.2.2.1 v (by simp [hv]))) hrc hrs
theorem sn_ixor {x y : Int} {st' : List PV} (h : Hyp p s m args meth c H locs k D S μ ad cA tys A ls (vI y :: vI x :: st') lsR rc rs) (hd : decode (mB k) pc = .ok (.ixor, 1)) (hq : 0 ≤ x ∧ 0 ≤ y) (kk : Cn p l e s m args below meth c Q k D A S.length ad cA (pc + 1) ls (vI (((x.toNat ^^^ y.toNat : Nat) : Int)) :: st') (S, μ, rc, rs)) : W p l e (rmK k) s m args below meth c H locs (mC k - rc) (mS k - rs) Q (F0 m pc lsR ((vI y :: vI x :: st').map (trV ad))) := by
  obtain ⟨hX, hWo, hS, hA, hF, hrc, hrs⟩ := h
  have hy : iR y := hF.2.2.2.1 (vI y) (by simp)
  have hx : iR x := hF.2.2.2.1 (vI x) (by simp)
  have hr : iR (((x.toNat ^^^ y.toNat : Nat) : Int)) := by first | exact hq | (have h1 : x.toNat ^^^ y.toNat < 2 ^ 31 := xor_lt31 (by omega) (by omega); show iR ((x.toNat ^^^ y.toNat : Nat) : Int); constructor <;> omega)
  show W p l e (rmK k) s m args below meth c H locs (mC k - rc) (mS k - rs) Q (F0 m pc lsR (.int (oI y) :: .int (oI x) :: st'.map (trV ad)))
  refine lv_ixor hX.2.1 hX.2.2.1 hd ?_
  rw [← oI_xor hx hy hq]
  exact kk.go hWo hS (hF.stk (fun v hv => by
    rcases List.mem_cons.mp hv with rfl | hv
    · exact hr
    · exact hF.2.2.2.1 v (by simp [hv]))) hrc hrs
theorem sn_iconst {n v : Int} (h : Hyp p s m args meth c H locs k D S μ ad cA tys A ls st lsR rc rs) (hd : decode (mB k) pc = .ok (.iconst n, 1)) (hv : Int32.ofInt n = Int32.ofInt v ∧ iR v) (kk : Cn p l e s m args below meth c Q k D A S.length ad cA (pc + 1) ls (vI v :: st) (S, μ, rc, rs)) : W p l e (rmK k) s m args below meth c H locs (mC k - rc) (mS k - rs) Q (F0 m pc lsR (st.map (trV ad))) := by
  obtain ⟨hX, hWo, hS, hA, hF, hrc, hrs⟩ := h
  refine lv_iconst hX.2.1 hX.2.2.1 hd hv.1 ?_
  exact kk.go hWo hS (hF.stk (fun w hw => by
    rcases List.mem_cons.mp hw with rfl | hw
    · exact hv.2
    · exact hF.2.2.2.1 w hw)) hrc hrs
theorem sn_bipush {n v : Int} (h : Hyp p s m args meth c H locs k D S μ ad cA tys A ls st lsR rc rs) (hd : decode (mB k) pc = .ok (.bipush n, 2)) (hv : (Int8.ofInt n).toInt32 = Int32.ofInt v ∧ iR v) (kk : Cn p l e s m args below meth c Q k D A S.length ad cA (pc + 2) ls (vI v :: st) (S, μ, rc, rs)) : W p l e (rmK k) s m args below meth c H locs (mC k - rc) (mS k - rs) Q (F0 m pc lsR (st.map (trV ad))) := by
  obtain ⟨hX, hWo, hS, hA, hF, hrc, hrs⟩ := h
  refine lv_bipush hX.2.1 hX.2.2.1 hd hv.1 ?_
  exact kk.go hWo hS (hF.stk (fun w hw => by
    rcases List.mem_cons.mp hw with rfl | hw
    · exact hv.2
    · exact hF.2.2.2.1 w hw)) hrc hrs
theorem sn_sipush {n v : Int} (h : Hyp p s m args meth c H locs k D S μ ad cA tys A ls st lsR rc rs) (hd : decode (mB k) pc = .ok (.sipush n, 3)) (hv : (Int16.ofInt n).toInt32 = Int32.ofInt v ∧ iR v) (kk : Cn p l e s m args below meth c Q k D A S.length ad cA (pc + 3) ls (vI v :: st) (S, μ, rc, rs)) : W p l e (rmK k) s m args below meth c H locs (mC k - rc) (mS k - rs) Q (F0 m pc lsR (st.map (trV ad))) := by
  obtain ⟨hX, hWo, hS, hA, hF, hrc, hrs⟩ := h
  refine lv_sipush hX.2.1 hX.2.2.1 hd hv.1 ?_
  exact kk.go hWo hS (hF.stk (fun w hw => by
    rcases List.mem_cons.mp hw with rfl | hw
    · exact hv.2
    · exact hF.2.2.2.1 w hw)) hrc hrs
theorem sn_lconst {n : Fin 2} {v : Int} (h : Hyp p s m args meth c H locs k D S μ ad cA tys A ls st lsR rc rs) (hd : decode (mB k) pc = .ok (.lconst n, 1)) (hv : Int64.ofNat (n : Nat) = Int64.ofInt v ∧ iR v) (kk : Cn p l e s m args below meth c Q k D A S.length ad cA (pc + 1) ls (vL v :: st) (S, μ, rc, rs)) : W p l e (rmK k) s m args below meth c H locs (mC k - rc) (mS k - rs) Q (F0 m pc lsR (st.map (trV ad))) := by
  obtain ⟨hX, hWo, hS, hA, hF, hrc, hrs⟩ := h
  refine lv_lconst hX.2.1 hX.2.2.1 hd hv.1 ?_
  exact kk.go hWo hS (hF.stk (fun w hw => by
    rcases List.mem_cons.mp hw with rfl | hw
    · exact hv.2
    · exact hF.2.2.2.1 w hw)) hrc hrs
theorem sn_ldc2 {i : Nat} {v : Int} (h : Hyp p s m args meth c H locs k D S μ ad cA tys A ls st lsR rc rs) (hd : decode (mB k) pc = .ok (.ldc2_w i, 3)) (hv : Cond.constantLong (nmC (mI k)) i (Int64.ofInt v) ∈ lw_tbl ∧ iR v) (kk : Cn p l e s m args below meth c Q k D A S.length ad cA (pc + 3) ls (vL v :: st) (S, μ, rc, rs)) : W p l e (rmK k) s m args below meth c H locs (mC k - rc) (mS k - rs) Q (F0 m pc lsR (st.map (trV ad))) := by
  obtain ⟨hX, hWo, hS, hA, hF, hrc, hrs⟩ := h
  refine lv_ldc2 hX.2.1 hX.2.2.1 hX.2.2.2.2.2.1 (hX.w hv.1 rfl) hd ?_
  exact kk.go hWo hS (hF.stk (fun w hw => by
    rcases List.mem_cons.mp hw with rfl | hw
    · exact hv.2
    · exact hF.2.2.2.1 w hw)) hrc hrs
theorem sn_iload {i : Nat} {x : Int} (h : Hyp p s m args meth c H locs k D S μ ad cA tys A ls st lsR rc rs) (hd : decode (mB k) pc = .ok (.iload i, 2)) (hl : ls.getD i none = some (vI x)) (kk : Cn p l e s m args below meth c Q k D A S.length ad cA (pc + 2) ls (vI x :: st) (S, μ, rc, rs)) : W p l e (rmK k) s m args below meth c H locs (mC k - rc) (mS k - rs) Q (F0 m pc lsR (st.map (trV ad))) := by
  obtain ⟨hX, hWo, hS, hA, hF, hrc, hrs⟩ := h
  refine lv_iload hX.2.1 hX.2.2.1 hd (hF.at hl).1 ?_
  exact kk.go hWo hS (hF.stk (fun w hw => by
    rcases List.mem_cons.mp hw with rfl | hw
    · exact (hF.at hl).2
    · exact hF.2.2.2.1 w hw)) hrc hrs
theorem sn_iload_n {i : Fin 4} {x : Int} (h : Hyp p s m args meth c H locs k D S μ ad cA tys A ls st lsR rc rs) (hd : decode (mB k) pc = .ok (.iload_n i, 1)) (hl : ls.getD (i : Nat) none = some (vI x)) (kk : Cn p l e s m args below meth c Q k D A S.length ad cA (pc + 1) ls (vI x :: st) (S, μ, rc, rs)) : W p l e (rmK k) s m args below meth c H locs (mC k - rc) (mS k - rs) Q (F0 m pc lsR (st.map (trV ad))) := by
  obtain ⟨hX, hWo, hS, hA, hF, hrc, hrs⟩ := h
  refine lv_iload_n hX.2.1 hX.2.2.1 hd rfl (hF.at hl).1 ?_
  exact kk.go hWo hS (hF.stk (fun w hw => by
    rcases List.mem_cons.mp hw with rfl | hw
    · exact (hF.at hl).2
    · exact hF.2.2.2.1 w hw)) hrc hrs
theorem sn_lload {i : Nat} {x : Int} (h : Hyp p s m args meth c H locs k D S μ ad cA tys A ls st lsR rc rs) (hd : decode (mB k) pc = .ok (.lload i, 2)) (hl : ls.getD i none = some (vL x)) (kk : Cn p l e s m args below meth c Q k D A S.length ad cA (pc + 2) ls (vL x :: st) (S, μ, rc, rs)) : W p l e (rmK k) s m args below meth c H locs (mC k - rc) (mS k - rs) Q (F0 m pc lsR (st.map (trV ad))) := by
  obtain ⟨hX, hWo, hS, hA, hF, hrc, hrs⟩ := h
  refine lv_lload hX.2.1 hX.2.2.1 hd (hF.at hl).1 ?_
  exact kk.go hWo hS (hF.stk (fun w hw => by
    rcases List.mem_cons.mp hw with rfl | hw
    · exact (hF.at hl).2
    · exact hF.2.2.2.1 w hw)) hrc hrs
theorem sn_lload_n {i : Fin 4} {x : Int} (h : Hyp p s m args meth c H locs k D S μ ad cA tys A ls st lsR rc rs) (hd : decode (mB k) pc = .ok (.lload_n i, 1)) (hl : ls.getD (i : Nat) none = some (vL x)) (kk : Cn p l e s m args below meth c Q k D A S.length ad cA (pc + 1) ls (vL x :: st) (S, μ, rc, rs)) : W p l e (rmK k) s m args below meth c H locs (mC k - rc) (mS k - rs) Q (F0 m pc lsR (st.map (trV ad))) := by
  obtain ⟨hX, hWo, hS, hA, hF, hrc, hrs⟩ := h
  refine lv_lload_n hX.2.1 hX.2.2.1 hd rfl (hF.at hl).1 ?_
  exact kk.go hWo hS (hF.stk (fun w hw => by
    rcases List.mem_cons.mp hw with rfl | hw
    · exact (hF.at hl).2
    · exact hF.2.2.2.1 w hw)) hrc hrs
theorem sn_aload {i : Nat} {x : Nat} (h : Hyp p s m args meth c H locs k D S μ ad cA tys A ls st lsR rc rs) (hd : decode (mB k) pc = .ok (.aload i, 2)) (hl : ls.getD i none = some (vR x)) (kk : Cn p l e s m args below meth c Q k D A S.length ad cA (pc + 2) ls (vR x :: st) (S, μ, rc, rs)) : W p l e (rmK k) s m args below meth c H locs (mC k - rc) (mS k - rs) Q (F0 m pc lsR (st.map (trV ad))) := by
  obtain ⟨hX, hWo, hS, hA, hF, hrc, hrs⟩ := h
  refine lv_aload hX.2.1 hX.2.2.1 hd (hF.at hl).1 ?_
  exact kk.go hWo hS (hF.stk (fun w hw => by
    rcases List.mem_cons.mp hw with rfl | hw
    · exact (hF.at hl).2
    · exact hF.2.2.2.1 w hw)) hrc hrs
theorem sn_aload_n {i : Fin 4} {x : Nat} (h : Hyp p s m args meth c H locs k D S μ ad cA tys A ls st lsR rc rs) (hd : decode (mB k) pc = .ok (.aload_n i, 1)) (hl : ls.getD (i : Nat) none = some (vR x)) (kk : Cn p l e s m args below meth c Q k D A S.length ad cA (pc + 1) ls (vR x :: st) (S, μ, rc, rs)) : W p l e (rmK k) s m args below meth c H locs (mC k - rc) (mS k - rs) Q (F0 m pc lsR (st.map (trV ad))) := by
  obtain ⟨hX, hWo, hS, hA, hF, hrc, hrs⟩ := h
  refine lv_aload_n hX.2.1 hX.2.2.1 hd rfl (hF.at hl).1 ?_
  exact kk.go hWo hS (hF.stk (fun w hw => by
    rcases List.mem_cons.mp hw with rfl | hw
    · exact (hF.at hl).2
    · exact hF.2.2.2.1 w hw)) hrc hrs
theorem sn_istore {i : Nat} {x : Int} {st' : List PV} (h : Hyp p s m args meth c H locs k D S μ ad cA tys A ls (vI x :: st') lsR rc rs) (hd : decode (mB k) pc = .ok (.istore i, 2)) (hi : i < mL k) (hk : nL k = true) (kk : Cn p l e s m args below meth c Q k D A S.length ad cA (pc + 2) (ls.set i (some (vI x))) st' (S, μ, rc, rs)) : W p l e (rmK k) s m args below meth c H locs (mC k - rc) (mS k - rs) Q (F0 m pc lsR ((vI x :: st').map (trV ad))) := by
  obtain ⟨hX, hWo, hS, hA, hF, hrc, hrs⟩ := h
  show W p l e (rmK k) s m args below meth c H locs (mC k - rc) (mS k - rs) Q (F0 m pc lsR (.int (oI x) :: st'.map (trV ad)))
  refine lv_istore hX.2.1 hX.2.2.1 hd hF.1 hi rfl (fun lsR' hl' => ?_)
  exact kk.go hWo hS (hF.set hk (v := vI x) (hF.2.2.2.1 (vI x) (by simp)) rfl (fun v hv => hF.2.2.2.1 v (by simp [hv])) hl') hrc hrs
theorem sn_istore_n {i : Fin 4} {x : Int} {st' : List PV} (h : Hyp p s m args meth c H locs k D S μ ad cA tys A ls (vI x :: st') lsR rc rs) (hd : decode (mB k) pc = .ok (.istore_n i, 1)) (hi : (i : Nat) < mL k) (hk : nL k = true) (kk : Cn p l e s m args below meth c Q k D A S.length ad cA (pc + 1) (ls.set (i : Nat) (some (vI x))) st' (S, μ, rc, rs)) : W p l e (rmK k) s m args below meth c H locs (mC k - rc) (mS k - rs) Q (F0 m pc lsR ((vI x :: st').map (trV ad))) := by
  obtain ⟨hX, hWo, hS, hA, hF, hrc, hrs⟩ := h
  show W p l e (rmK k) s m args below meth c H locs (mC k - rc) (mS k - rs) Q (F0 m pc lsR (.int (oI x) :: st'.map (trV ad)))
  refine lv_istore_n hX.2.1 hX.2.2.1 hd rfl hF.1 hi rfl (fun lsR' hl' => ?_)
  exact kk.go hWo hS (hF.set hk (v := vI x) (hF.2.2.2.1 (vI x) (by simp)) rfl (fun v hv => hF.2.2.2.1 v (by simp [hv])) hl') hrc hrs
theorem sn_iinc {i : Nat} {n v x : Int} (h : Hyp p s m args meth c H locs k D S μ ad cA tys A ls st lsR rc rs) (hd : decode (mB k) pc = .ok (.iinc i n, 3)) (hi : i < mL k) (hk : nL k = true) (hv : Int32.ofInt n = Int32.ofInt v ∧ iR v) (hl : ls.getD i none = some (vI x)) (hr : iR (x + v)) (kk : Cn p l e s m args below meth c Q k D A S.length ad cA (pc + 3) (ls.set i (some (vI (x + v)))) st (S, μ, rc, rs)) : W p l e (rmK k) s m args below meth c H locs (mC k - rc) (mS k - rs) Q (F0 m pc lsR (st.map (trV ad))) := by
  obtain ⟨hX, hWo, hS, hA, hF, hrc, hrs⟩ := h
  have h1 := hF.at hl
  have h2 : ls[i]? = some (some (vI x)) := by
    rw [List.getD_eq_getElem?_getD] at hl
    cases hj : ls[i]? with
    | none => rw [hj] at hl; cases hl
    | some o => rw [hj] at hl; exact congrArg some hl
  have h3 : (i, Value.int (oI x)) ∈ asc ad 0 ls := (asc_mem ls 0 _).mpr ⟨i, vI x, h2, by rw [Nat.zero_add]; rfl⟩
  obtain ⟨z, hz⟩ := List.getElem?_of_mem h3
  refine lv_iinc (k := z) (v := oI (x + v)) hX.2.1 hX.2.2.1 hd hF.1 hz (by rw [hv.1]; exact (oI_add x v).symm) hi rfl (fun lsR' hl' => ?_)
  exact kk.go hWo hS (hF.set hk (v := vI (x + v)) hr rfl hF.2.2.2.1 hl') hrc hrs
theorem sn_i2l {x : Int} {st' : List PV} (h : Hyp p s m args meth c H locs k D S μ ad cA tys A ls (vI x :: st') lsR rc rs) (hd : decode (mB k) pc = .ok (.i2l, 1)) (kk : Cn p l e s m args below meth c Q k D A S.length ad cA (pc + 1) ls (vL x :: st') (S, μ, rc, rs)) : W p l e (rmK k) s m args below meth c H locs (mC k - rc) (mS k - rs) Q (F0 m pc lsR ((vI x :: st').map (trV ad))) := by
  obtain ⟨hX, hWo, hS, hA, hF, hrc, hrs⟩ := h
  have hx : iR x := hF.2.2.2.1 (vI x) (by simp)
  show W p l e (rmK k) s m args below meth c H locs (mC k - rc) (mS k - rs) Q (F0 m pc lsR (.int (oI x) :: st'.map (trV ad)))
  refine lv_i2l hX.2.1 hX.2.2.1 hd (oI_long hx) ?_
  exact kk.go hWo hS (hF.stk (fun v hv => by
    rcases List.mem_cons.mp hv with rfl | hv
    · exact hx
    · exact hF.2.2.2.1 v (by simp [hv]))) hrc hrs
theorem sn_lcmp {x y : Int} {st' : List PV} (h : Hyp p s m args meth c H locs k D S μ ad cA tys A ls (vL y :: vL x :: st') lsR rc rs) (hd : decode (mB k) pc = .ok (.lcmp, 1)) (kk : Cn p l e s m args below meth c Q k D A S.length ad cA (pc + 1) ls (vI (if y < x then 1 else if x = y then 0 else -1) :: st') (S, μ, rc, rs)) : W p l e (rmK k) s m args below meth c H locs (mC k - rc) (mS k - rs) Q (F0 m pc lsR ((vL y :: vL x :: st').map (trV ad))) := by
  obtain ⟨hX, hWo, hS, hA, hF, hrc, hrs⟩ := h
  have hy : iR y := hF.2.2.2.1 (vL y) (by simp)
  have hx : iR x := hF.2.2.2.1 (vL x) (by simp)
  show W p l e (rmK k) s m args below meth c H locs (mC k - rc) (mS k - rs) Q (F0 m pc lsR (.long (Int64.ofInt y) :: .long (Int64.ofInt x) :: st'.map (trV ad)))
  refine W.lcmp hX.2.1 hX.2.2.1 hd ?_
  rw [oI_cmp hx hy]
  exact kk.go hWo hS (hF.stk (fun v hv => by
    rcases List.mem_cons.mp hv with rfl | hv
    · show iR _
      split
      · decide
      · split <;> decide
    · exact hF.2.2.2.1 v (by simp [hv]))) hrc hrs
theorem sn_dup {v : PV} {st' : List PV} (h : Hyp p s m args meth c H locs k D S μ ad cA tys A ls (v :: st') lsR rc rs) (hd : decode (mB k) pc = .ok (.dup, 1)) (hv : isL v = false) (kk : Cn p l e s m args below meth c Q k D A S.length ad cA (pc + 1) ls (v :: v :: st') (S, μ, rc, rs)) : W p l e (rmK k) s m args below meth c H locs (mC k - rc) (mS k - rs) Q (F0 m pc lsR ((v :: st').map (trV ad))) := by
  obtain ⟨hX, hWo, hS, hA, hF, hrc, hrs⟩ := h
  refine lv_dup hX.2.1 hX.2.2.1 hd (by rw [trV_cat, hv]; rfl) ?_
  exact kk.go hWo hS (hF.stk (fun w hw => hF.2.2.2.1 w (by simp at hw ⊢; exact hw))) hrc hrs
theorem sn_dup2 {v v2 : PV} {st' : List PV} (h : Hyp p s m args meth c H locs k D S μ ad cA tys A ls (v :: v2 :: st') lsR rc rs) (hd : decode (mB k) pc = .ok (.dup2, 1)) (hv : isL v = false) (hv2 : isL v2 = false) (kk : Cn p l e s m args below meth c Q k D A S.length ad cA (pc + 1) ls (v :: v2 :: v :: v2 :: st') (S, μ, rc, rs)) : W p l e (rmK k) s m args below meth c H locs (mC k - rc) (mS k - rs) Q (F0 m pc lsR ((v :: v2 :: st').map (trV ad))) := by
  obtain ⟨hX, hWo, hS, hA, hF, hrc, hrs⟩ := h
  refine lv_dup2_11 hX.2.1 hX.2.2.1 hd (by rw [trV_cat, hv]; rfl) (by rw [trV_cat, hv2]; rfl) ?_
  exact kk.go hWo hS (hF.stk (fun w hw => hF.2.2.2.1 w (by
    simp only [List.mem_cons] at hw ⊢
    rcases hw with h | h | h | h | h <;> simp [h]))) hrc hrs
theorem sn_goto {off : Int} {tgt : Nat} (h : Hyp p s m args meth c H locs k D S μ ad cA tys A ls st lsR rc rs) (hd : decode (mB k) pc = .ok (.goto off, 3)) (ht : (pc : Int) + off = (tgt : Int)) (kk : Cn p l e s m args below meth c Q k D A S.length ad cA tgt ls st (S, μ, rc, rs)) : W p l e (rmK k) s m args below meth c H locs (mC k - rc) (mS k - rs) Q (F0 m pc lsR (st.map (trV ad))) := by
  obtain ⟨hX, hWo, hS, hA, hF, hrc, hrs⟩ := h
  exact lv_goto hX.2.1 hX.2.2.1 hd ht (kk.go hWo hS hF hrc hrs)
theorem sn_icmp {cd : ClassFile.Cond} {off : Int} {tgt : Nat} {x y : Int} {st' : List PV} (h : Hyp p s m args meth c H locs k D S μ ad cA tys A ls (vI y :: vI x :: st') lsR rc rs) (hd : decode (mB k) pc = .ok (.if_icmp cd off, 3)) (ht : (pc : Int) + off = (tgt : Int)) (kk : Cn p l e s m args below meth c Q k D A S.length ad cA (if cmpI cd x y then tgt else pc + 3) ls st' (S, μ, rc, rs)) : W p l e (rmK k) s m args below meth c H locs (mC k - rc) (mS k - rs) Q (F0 m pc lsR ((vI y :: vI x :: st').map (trV ad))) := by
  obtain ⟨hX, hWo, hS, hA, hF, hrc, hrs⟩ := h
  have hy : iR y := hF.2.2.2.1 (vI y) (by simp)
  have hx : iR x := hF.2.2.2.1 (vI x) (by simp)
  have hF2 := hF.stk (st' := st') (fun v hv => hF.2.2.2.1 v (by simp [hv]))
  show W p l e (rmK k) s m args below meth c H locs (mC k - rc) (mS k - rs) Q (F0 m pc lsR (.int (oI y) :: .int (oI x) :: st'.map (trV ad)))
  cases cd with
  | eq =>
    refine lv_icmp_eq hX.2.1 hX.2.2.1 hd ht (fun z => ?_) (fun z => ?_)
    · have e : cmpI .eq x y = true := decide_eq_true ((oI_eq hx hy).mp z)
      rw [if_pos e] at kk; exact kk.go hWo hS hF2 hrc hrs
    · have e : cmpI .eq x y = false := decide_eq_false (fun q => z ((oI_eq hx hy).mpr q))
      rw [e] at kk; exact kk.go hWo hS hF2 hrc hrs
  | ne =>
    refine lv_icmp_ne hX.2.1 hX.2.2.1 hd ht (fun z => ?_) (fun z => ?_)
    · have e : cmpI .ne x y = true := decide_eq_true (fun q => z ((oI_eq hx hy).mpr q))
      rw [if_pos e] at kk; exact kk.go hWo hS hF2 hrc hrs
    · have e : cmpI .ne x y = false := decide_eq_false (fun q => q ((oI_eq hx hy).mp z))
      rw [e] at kk; exact kk.go hWo hS hF2 hrc hrs
  | lt =>
    refine lv_icmp_lt hX.2.1 hX.2.2.1 hd ht (fun z => ?_) (fun z => ?_)
    · have e : cmpI .lt x y = true := decide_eq_true ((oI_lt hx hy).mp z)
      rw [if_pos e] at kk; exact kk.go hWo hS hF2 hrc hrs
    · have e : cmpI .lt x y = false := decide_eq_false (fun q => z ((oI_lt hx hy).mpr q))
      rw [e] at kk; exact kk.go hWo hS hF2 hrc hrs
  | ge =>
    refine lv_icmp_ge hX.2.1 hX.2.2.1 hd ht (fun z => ?_) (fun z => ?_)
    · have e : cmpI .ge x y = true := decide_eq_true ((oI_le hy hx).mp z)
      rw [if_pos e] at kk; exact kk.go hWo hS hF2 hrc hrs
    · have e : cmpI .ge x y = false := decide_eq_false (fun q => z ((oI_le hy hx).mpr q))
      rw [e] at kk; exact kk.go hWo hS hF2 hrc hrs
  | gt =>
    refine lv_icmp_gt hX.2.1 hX.2.2.1 hd ht (fun z => ?_) (fun z => ?_)
    · have e : cmpI .gt x y = true := decide_eq_true ((oI_lt hy hx).mp z)
      rw [if_pos e] at kk; exact kk.go hWo hS hF2 hrc hrs
    · have e : cmpI .gt x y = false := decide_eq_false (fun q => z ((oI_lt hy hx).mpr q))
      rw [e] at kk; exact kk.go hWo hS hF2 hrc hrs
  | le =>
    refine lv_icmp_le hX.2.1 hX.2.2.1 hd ht (fun z => ?_) (fun z => ?_)
    · have e : cmpI .le x y = true := decide_eq_true ((oI_le hx hy).mp z)
      rw [if_pos e] at kk; exact kk.go hWo hS hF2 hrc hrs
    · have e : cmpI .le x y = false := decide_eq_false (fun q => z ((oI_le hx hy).mpr q))
      rw [e] at kk; exact kk.go hWo hS hF2 hrc hrs
theorem sn_if {cd : ClassFile.Cond} {off : Int} {tgt : Nat} {x : Int} {st' : List PV} (h : Hyp p s m args meth c H locs k D S μ ad cA tys A ls (vI x :: st') lsR rc rs) (hd : decode (mB k) pc = .ok (.ifCond cd off, 3)) (ht : (pc : Int) + off = (tgt : Int)) (kk : Cn p l e s m args below meth c Q k D A S.length ad cA (if cmpI cd x 0 then tgt else pc + 3) ls st' (S, μ, rc, rs)) : W p l e (rmK k) s m args below meth c H locs (mC k - rc) (mS k - rs) Q (F0 m pc lsR ((vI x :: st').map (trV ad))) := by
  obtain ⟨hX, hWo, hS, hA, hF, hrc, hrs⟩ := h
  have h0 : iR 0 := by decide
  have hx : iR x := hF.2.2.2.1 (vI x) (by simp)
  have hF2 := hF.stk (st' := st') (fun v hv => hF.2.2.2.1 v (by simp [hv]))
  show W p l e (rmK k) s m args below meth c H locs (mC k - rc) (mS k - rs) Q (F0 m pc lsR (.int (oI x) :: st'.map (trV ad)))
  cases cd with
  | eq =>
    refine lv_if_eq hX.2.1 hX.2.2.1 hd ht (fun z => ?_) (fun z => ?_)
    · have e : cmpI .eq x 0 = true := decide_eq_true ((oI_eq hx h0).mp (by rw [oI_0]; exact z))
      rw [if_pos e] at kk; exact kk.go hWo hS hF2 hrc hrs
    · have e : cmpI .eq x 0 = false := decide_eq_false (fun q => z (by rw [← oI_0]; exact (oI_eq hx h0).mpr q))
      rw [e] at kk; exact kk.go hWo hS hF2 hrc hrs
  | ne =>
    refine lv_if_ne hX.2.1 hX.2.2.1 hd ht (fun z => ?_) (fun z => ?_)
    · have e : cmpI .ne x 0 = true := decide_eq_true (fun q => z (by rw [← oI_0]; exact (oI_eq hx h0).mpr q))
      rw [if_pos e] at kk; exact kk.go hWo hS hF2 hrc hrs
    · have e : cmpI .ne x 0 = false := decide_eq_false (fun q => q ((oI_eq hx h0).mp (by rw [oI_0]; exact z)))
      rw [e] at kk; exact kk.go hWo hS hF2 hrc hrs
  | lt =>
    refine lv_if_lt hX.2.1 hX.2.2.1 hd ht (fun z => ?_) (fun z => ?_)
    · have e : cmpI .lt x 0 = true := decide_eq_true ((oI_lt hx h0).mp (by rw [oI_0]; exact z))
      rw [if_pos e] at kk; exact kk.go hWo hS hF2 hrc hrs
    · have e : cmpI .lt x 0 = false := decide_eq_false (fun q => z (by rw [← oI_0]; exact (oI_lt hx h0).mpr q))
      rw [e] at kk; exact kk.go hWo hS hF2 hrc hrs
  | ge =>
    refine lv_if_ge hX.2.1 hX.2.2.1 hd ht (fun z => ?_) (fun z => ?_)
    · have e : cmpI .ge x 0 = true := decide_eq_true ((oI_le h0 hx).mp (by rw [oI_0]; exact z))
      rw [if_pos e] at kk; exact kk.go hWo hS hF2 hrc hrs
    · have e : cmpI .ge x 0 = false := decide_eq_false (fun q => z (by rw [← oI_0]; exact (oI_le h0 hx).mpr q))
      rw [e] at kk; exact kk.go hWo hS hF2 hrc hrs
  | gt =>
    refine lv_if_gt hX.2.1 hX.2.2.1 hd ht (fun z => ?_) (fun z => ?_)
    · have e : cmpI .gt x 0 = true := decide_eq_true ((oI_lt h0 hx).mp (by rw [oI_0]; exact z))
      rw [if_pos e] at kk; exact kk.go hWo hS hF2 hrc hrs
    · have e : cmpI .gt x 0 = false := decide_eq_false (fun q => z (by rw [← oI_0]; exact (oI_lt h0 hx).mpr q))
      rw [e] at kk; exact kk.go hWo hS hF2 hrc hrs
  | le =>
    refine lv_if_le hX.2.1 hX.2.2.1 hd ht (fun z => ?_) (fun z => ?_)
    · have e : cmpI .le x 0 = true := decide_eq_true ((oI_le hx h0).mp (by rw [oI_0]; exact z))
      rw [if_pos e] at kk; exact kk.go hWo hS hF2 hrc hrs
    · have e : cmpI .le x 0 = false := decide_eq_false (fun q => z (by rw [← oI_0]; exact (oI_le hx h0).mpr q))
      rw [e] at kk; exact kk.go hWo hS hF2 hrc hrs
theorem sn_switch {dflt lo hi : Int} {offs : Array Int} {len : Nat} {tg : List Nat} {x : Int} {st' : List PV} (h : Hyp p s m args meth c H locs k D S μ ad cA tys A ls (vI x :: st') lsR rc rs) (hd : decode (mB k) pc = .ok (.tableswitch dflt lo hi offs, len)) (h1 : (pc : Int) + dflt = (tg.getD 0 0 : Nat)) (h2 : 0 ≤ lo ∧ lo ≤ hi ∧ hi < 100) (h3 : offs.size = (hi - lo).toNat + 1) (h4 : ∀ j, j < (hi - lo).toNat + 1 → (pc : Int) + offs.getD j 0 = (tg.getD (1 + j) 0 : Nat)) (kk : Cn p l e s m args below meth c Q k D A S.length ad cA (if x < lo ∨ hi < x then tg.getD 0 0 else tg.getD (1 + (x - lo).toNat) 0) ls st' (S, μ, rc, rs)) : W p l e (rmK k) s m args below meth c H locs (mC k - rc) (mS k - rs) Q (F0 m pc lsR ((vI x :: st').map (trV ad))) := by
  obtain ⟨hX, hWo, hS, hA, hF, hrc, hrs⟩ := h
  have hx : iR x := hF.2.2.2.1 (vI x) (by simp)
  have hF2 := hF.stk (st' := st') (fun v hv => hF.2.2.2.1 v (by simp [hv]))
  show W p l e (rmK k) s m args below meth c H locs (mC k - rc) (mS k - rs) Q (F0 m pc lsR (.int (oI x) :: st'.map (trV ad)))
  by_cases hq : x < lo ∨ hi < x
  · rw [if_pos hq] at kk
    refine lv_tableOut hX.2.1 hX.2.2.1 hd (by rw [oI_to hx]; exact hq) h1 ?_
    exact kk.go hWo hS hF2 hrc hrs
  · rw [if_neg hq] at kk
    have hj : (x - lo).toNat < offs.size := by omega
    refine lv_tableIn hX.2.1 hX.2.2.1 hd (by rw [oI_to hx]; omega) (by rw [oI_to hx]; omega) (off := offs.getD (x - lo).toNat 0) (by rw [oI_to hx]; simp [Array.getD, hj]) (h4 _ (by omega)) ?_
    exact kk.go hWo hS hF2 hrc hrs
end SND
