/-! THE PURE MACHINE's STATE, as the machine has it -/
def trV (ad : Nat → Nat) (v : PV) : Value := match v with
  | .inl x => .int (oI x)
  | .inr (.inl x) => .long (Int64.ofInt x)
  | .inr (.inr p) => .ref (ad p)
def okV (n : Nat) (v : PV) : Prop := match v with
  | .inl x => iR x
  | .inr (.inl x) => iR x
  | .inr (.inr p) => p < n
def bty (b : Bool) : FieldType := if b then .boolean else .int
def rfT (t : FieldType) : Bool := match t with
  | .object _ => true
  | .array _ => true
  | _ => false
def fV (ad : Nat → Nat) (μ : Mu) (p i : Nat) (o : Option (Option Nat)) : Value := match o with
  | none => .int (oI (μ p i))
  | some none => .null
  | some (some q) => .ref (ad q)
def mkE (ad : Nat → Nat) (cA : Nat → ClassId) (μ : Mu) (p : Nat) (sh : Shp) : va_E := match sh with
  | .inl q => .inl (cA p, q.2, .inl (fun j => oI (μ p (j : Int))))
  | .inr q => .inr (q.1, q.2.mapIdx (fun i o => fV ad μ p i o))
def mkW (S : List Shp) (μ : Mu) (ad : Nat → Nat) (cA : Nat → ClassId) : va_W := S.mapIdx (fun p sh => (ad p, mkE ad cA μ p sh))
theorem mkW_len {S : List Shp} {μ : Mu} {ad : Nat → Nat} {cA : Nat → ClassId} : (mkW S μ ad cA).length = S.length := by simp [mkW]
theorem mkW_at {S : List Shp} {μ : Mu} {ad : Nat → Nat} {cA : Nat → ClassId} {p : Nat} {sh : Shp} (h : S[p]? = some sh) : (mkW S μ ad cA)[p]? = some (ad p, mkE ad cA μ p sh) := by
  simp [mkW, h]
theorem mkW_ext {ws : va_W} {S : List Shp} {μ : Mu} {ad : Nat → Nat} {cA : Nat → ClassId} (hl : ws.length = S.length) (h : ∀ (p : Nat) (sh : Shp), S[p]? = some sh → ws[p]? = some (ad p, mkE ad cA μ p sh)) : ws = mkW S μ ad cA := by
  apply List.ext_getElem?
  intro p
  cases hp : S[p]? with
  | none =>
    have h1 : S.length ≤ p := List.getElem?_eq_none_iff.mp hp
    rw [List.getElem?_eq_none_iff.mpr (by omega), List.getElem?_eq_none_iff.mpr (by rw [mkW_len]; omega)]
  | some sh => rw [h p sh hp, mkW_at hp]
def RgM (μ : Mu) : Prop := ∀ p i, iR (μ p i)
def shOK (n : Nat) (sh : Shp) : Prop := match sh with
  | .inl _ => True
  | .inr q => q.1 < 13 ∧ q.2.length = clN q.1 ∧ ∀ (i : Nat) (o : Option (Option Nat)), q.2[i]? = some o → (match o with
    | none => tyC q.1 i = .int
    | some none => rfT (tyC q.1 i) = true
    | some (some z) => rfT (tyC q.1 i) = true ∧ z < n)
def ShOK (S : List Shp) : Prop := ∀ (p : Nat) (sh : Shp), S[p]? = some sh → shOK S.length sh
def TyOK (S : List Shp) (cA : Nat → ClassId) (tys : List (ClassId × FieldType)) : Prop := ∀ (p : Nat) (b : Bool) (n : Nat), S[p]? = some (.inl (b, n)) → ∃ i : Nat, tys[i]? = some (cA p, bty b)
def Wo (D : va_G) (S : List Shp) (μ : Mu) (ad : Nat → Nat) (cA : Nat → ClassId) (tys : List (ClassId × FieldType)) (A : Nat → Prop) (s : State) (H : Heap) : Prop :=
  va_K D cls tys s ∧ va_P D cls (mkW S μ ad cA) H ∧ va_D A (mkW S μ ad cA) ∧ TyOK S cA tys ∧ RgM μ ∧ ShOK S
def TW : List Cond := lw_tbl.filter goodWord
theorem tw_mem {w : Cond} (h : w ∈ lw_tbl) (g : goodWord w = true) : w ∈ TW := List.mem_filter.mpr ⟨h, g⟩
def wsK (k : Nat) : List Cond := .code (mY k) (mB k) (mL k) (rT (mR k)) :: TW
def rmK (k : Nat) : Room := { frames := mF k, cells := mC k, slots := mS k, locals := mO k }
theorem code_tw {k : Nat} (hk : k < 164) : Cond.code (mY k) (mB k) (mL k) (rT (mR k)) ∈ TW := tw_mem (kw_a164 k hk) rfl
theorem good_in {big : List Cond} (hb : ∀ w ∈ TW, w ∈ big) {j : Nat} (hj : j < 164) : GoodIn big (wsK j) := by
  intro w hw
  rcases List.mem_cons.mp hw with rfl | h
  · exact ⟨hb _ (code_tw hj), good_of_word rfl⟩
  · exact ⟨hb _ h, good_of_word (List.mem_filter.mp h).2⟩
theorem tw_in (k : Nat) : ∀ w ∈ TW, w ∈ wsK k := fun _ h => List.mem_cons_of_mem _ h
/-- the links to nest mates' private members -/
def NWs (U : State) : Prop := ∀ q ∈ MK, (q.2.2.1 = 5 ∨ q.2.2.1 = 7) → va_Nw (.methodLinkNest (nmC q.1) q.2.1 (mY q.2.2.2.1) RX11) U
theorem NWs.warm {s U : State} (hW : s.WarmedH U.vm) (h : NWs s) : NWs U := fun q hq hk => va_Nw.warmM hW (h q hq hk)
theorem NWs.same {s U : State} (hW : s.vm = U.vm) (h : NWs s) : NWs U := fun q hq hk => va_Nw.same rfl hW (h q hq hk)
/-- what holds all through a method's frame -/
def Fx (p : Program) (s : State) (m : MethodId) (args : Array Value) (meth : Method) (c : Code) (k : Nat) : Prop :=
  k < 164 ∧ p.tables.exec = Jvm.exec ∧ c.code = mB k ∧ meth.sig.returnType = rT (mR k) ∧ c.maxLocals = mL k ∧ s.vm.findClass (nmC (mI k)) = some m.cls ∧ (∀ w ∈ wsK k, w.before args s = true) ∧ meth.locks = false ∧ (mZ k = 1 → meth.name = "<init>") ∧ NWs s
def asc (ad : Nat → Nat) : Nat → Lo → List (Nat × Value)
  | _, [] => []
  | i, none :: r => asc ad (i + 1) r
  | i, some v :: r => (i, trV ad v) :: asc ad (i + 1) r
theorem asc_mem {ad : Nat → Nat} : ∀ (ls : Lo) (i : Nat) (q : Nat × Value), q ∈ asc ad i ls ↔ ∃ j v, ls[j]? = some (some v) ∧ q = (i + j, trV ad v) := by
  intro ls
  induction ls with
  | nil => intro i q; simp [asc]
  | cons o r ih =>
    intro i q
    cases o with
    | none =>
      rw [asc, ih]
      constructor
      · rintro ⟨j, v, h1, h2⟩
        exact ⟨j + 1, v, by simpa using h1, by rw [h2]; congr 1; omega⟩
      · rintro ⟨j, v, h1, h2⟩
        cases j with
        | zero => simp at h1
        | succ j => exact ⟨j, v, by simpa using h1, by rw [h2]; congr 1; omega⟩
    | some w =>
      rw [asc, List.mem_cons, ih]
      constructor
      · rintro (h | ⟨j, v, h1, h2⟩)
        · exact ⟨0, w, by simp, by rw [h]; rfl⟩
        · exact ⟨j + 1, v, by simpa using h1, by rw [h2]; congr 1; omega⟩
      · rintro ⟨j, v, h1, h2⟩
        cases j with
        | zero =>
          simp at h1
          subst h1
          exact Or.inl (by rw [h2]; rfl)
        | succ j => exact Or.inr ⟨j, v, by simpa using h1, by rw [h2]; congr 1; omega⟩
/-- locals and stack -/
def Fs (ad : Nat → Nat) (k n : Nat) (ls : Lo) (st : List PV) (lsR : Array Slot) : Prop :=
  lv_has lsR (mL k) (asc ad 0 ls) ∧ ls.length = mL k ∧ (∀ v, some v ∈ ls → okV n v) ∧ (∀ v ∈ st, okV n v) ∧ (nL k = true → ∀ v, some v ∈ ls → isL v = false)
theorem Fs.at {ad : Nat → Nat} {k n : Nat} {ls : Lo} {st : List PV} {lsR : Array Slot} (h : Fs ad k n ls st lsR) {i : Nat} {v : PV} (hi : ls.getD i none = some v) : lsR[i]? = some (.val (trV ad v)) ∧ okV n v := by
  have h1 : ls[i]? = some (some v) := by
    rw [List.getD_eq_getElem?_getD] at hi
    cases hj : ls[i]? with
    | none => rw [hj] at hi; cases hi
    | some o => rw [hj] at hi; exact congrArg some hi
  refine ⟨h.1.2.2 (i, trV ad v) ((asc_mem ls 0 _).mpr ⟨i, v, h1, by rw [Nat.zero_add]⟩), h.2.2.1 v (List.mem_of_getElem? h1)⟩
theorem Fs.stk {ad : Nat → Nat} {k n : Nat} {ls : Lo} {st st' : List PV} {lsR : Array Slot} (h : Fs ad k n ls st lsR) (h' : ∀ v ∈ st', okV n v) : Fs ad k n ls st' lsR := ⟨h.1, h.2.1, h.2.2.1, h', h.2.2.2.2⟩
theorem trV_cat (ad : Nat → Nat) (v : PV) : (trV ad v).category = if isL v then 2 else 1 := by
  rcases v with x | x | x <;> rfl
theorem Fs.set {ad : Nat → Nat} {k n : Nat} {ls : Lo} {st st' : List PV} {lsR lsR' : Array Slot} (h : Fs ad k n ls st lsR) (hk : nL k = true) {i : Nat} {v : PV} (hv : okV n v) (hl : isL v = false) (hs : ∀ v ∈ st', okV n v)
    (h' : lv_has lsR' (mL k) ((i, trV ad v) :: (asc ad 0 ls).filter (fun q => !(q.1 == i) && !(q.1 + 1 == i && q.2.category == 2)))) : Fs ad k n (ls.set i (some v)) st' lsR' := by
  have key : ∀ (j : Nat) (w : PV), (ls.set i (some v))[j]? = some (some w) → (j = i ∧ w = v) ∨ (j ≠ i ∧ ls[j]? = some (some w)) := by
    intro j w hj
    by_cases hji : j = i
    · subst hji
      rw [List.getElem?_set] at hj
      split at hj
      · split at hj
        · cases hj; exact Or.inl ⟨rfl, rfl⟩
        · cases hj
      · rename_i hne
        exact absurd rfl hne
    · rw [List.getElem?_set_ne (Ne.symm hji)] at hj
      exact Or.inr ⟨hji, hj⟩
  have mem : ∀ w, some w ∈ ls.set i (some v) → w = v ∨ some w ∈ ls := by
    intro w hw
    obtain ⟨j, hj⟩ := List.getElem?_of_mem hw
    rcases key j w hj with h1 | h1
    · exact Or.inl h1.2
    · exact Or.inr (List.mem_of_getElem? h1.2)
  refine ⟨⟨h'.1, h'.2.1, fun q hq => ?_⟩, by rw [List.length_set]; exact h.2.1, fun w hw => ?_, hs, fun _ w hw => ?_⟩
  · obtain ⟨j, w, h1, rfl⟩ := (asc_mem _ _ _).mp hq
    rw [Nat.zero_add]
    rcases key j w h1 with ⟨rfl, rfl⟩ | ⟨h2, h3⟩
    · exact h'.2.2 _ List.mem_cons_self
    · refine h'.2.2 _ (List.mem_cons_of_mem _ (List.mem_filter.mpr ⟨(asc_mem _ _ _).mpr ⟨j, w, h3, by rw [Nat.zero_add]⟩, ?_⟩))
      have hc := trV_cat ad w
      rw [h.2.2.2.2 hk w (List.mem_of_getElem? h3)] at hc
      simp [h2, hc]
  · rcases mem w hw with rfl | h1
    · exact hv
    · exact h.2.2.1 w h1
  · rcases mem w hw with rfl | h1
    · exact hl
    · exact h.2.2.2.2 hk w h1
theorem okV_mono {n n' : Nat} (h : n ≤ n') {v : PV} (hv : okV n v) : okV n' v := by
  rcases v with x | x | x
  · exact hv
  · exact hv
  · exact Nat.lt_of_lt_of_le hv h
theorem trV_ag {n : Nat} {ad ad' : Nat → Nat} (h : ∀ p, p < n → ad' p = ad p) {v : PV} (hv : okV n v) : trV ad' v = trV ad v := by
  rcases v with x | x | x
  · rfl
  · rfl
  · exact congrArg Value.ref (h x hv)
theorem asc_ag {n : Nat} {ad ad' : Nat → Nat} (h : ∀ p, p < n → ad' p = ad p) : ∀ (ls : Lo) (i : Nat), (∀ v, some v ∈ ls → okV n v) → asc ad' i ls = asc ad i ls := by
  intro ls
  induction ls with
  | nil => intro i _; rfl
  | cons o r ih =>
    intro i hv
    cases o with
    | none => exact ih (i + 1) (fun v hm => hv v (List.mem_cons_of_mem _ hm))
    | some w =>
      rw [asc, asc, ih (i + 1) (fun v hm => hv v (List.mem_cons_of_mem _ hm)), trV_ag h (hv w List.mem_cons_self)]
theorem Fs.ag {n n' : Nat} {ad ad' : Nat → Nat} {k : Nat} {ls : Lo} {st st' : List PV} {lsR : Array Slot} (hF : Fs ad k n ls st lsR) (h : ∀ p, p < n → ad' p = ad p) (hn : n ≤ n') (hs : ∀ v ∈ st', okV n' v) : Fs ad' k n' ls st' lsR :=
  ⟨by rw [asc_ag h ls 0 hF.2.2.1]; exact hF.1, hF.2.1, fun v hv => okV_mono hn (hF.2.2.1 v hv), hs, hF.2.2.2.2⟩
theorem map_ag {n : Nat} {ad ad' : Nat → Nat} (h : ∀ p, p < n → ad' p = ad p) {st : List PV} (hs : ∀ v ∈ st, okV n v) : st.map (trV ad') = st.map (trV ad) := List.map_congr_left (fun v hv => trV_ag h (hs v hv))
