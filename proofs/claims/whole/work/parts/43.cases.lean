/-! the law: each of its cases -/
theorem okx (x : Int32) : okV SH.length (vI x.toInt) := by
  have h1 := x.le_toInt
  have h2 := x.toInt_lt
  exact ⟨by omega, by omega⟩
theorem oks_0 {q : Nat} (h : q < SH.length) : ∀ v ∈ [vR q], okV SH.length v := fun v hv => by
  rw [List.mem_singleton.mp hv]; exact h
/-- what stands in the law's frame and in the heap between two calls -/
def Lst (s : State) (D : va_G) (b : Nat) (x3 : Int32) (ls : Array Slot) (μ : Mu) (ad : Nat → Nat) (cA : Nat → ClassId) (tys : List (ClassId × FieldType)) (H : Heap) (locs : List Loc) : Prop :=
  Wo D SH μ ad cA tys (AL s) s H ∧ va_S (AL s) s.heap H locs ∧ lv_has ls 4 [(0, .ref b), (1, .ref (ad 0)), (2, .ref (ad 47)), (3, .int x3)]
section LAWD
variable {p : Program} {l : Launch} {e : Env} {s : State} {m : MethodId} {below : List Frame} {meth : Method} {c : Code} {H : Heap} {locs : List Loc} {Q : State → Prop} {b L pc : Nat} {xs : Nat → Int32} {D : va_G} {μ : Mu} {ad : Nat → Nat} {cA : Nat → ClassId} {tys : List (ClassId × FieldType)} {ls : Array Slot} {x3 : Int32}
/-- an int of the script -/
theorem law_arg {i k : Nat} {rest : List Value} (C0 : lw_At p s m meth c b L xs) (hL : L ≤ 2560) (h : Lst s D b (nI i) ls μ ad cA tys H locs) (hi : i + k < L) (hk : Int32.ofInt (k : Int) = nI k) (d0 : decode code pc = .ok (.aload_n 0, 1)) (d1 : decode code (pc + 1) = .ok (.iload_n 3, 1)) (d2 : decode code (pc + 1 + 1) = .ok (.iconst (k : Int), 1)) (d3 : decode code (pc + 1 + 1 + 1) = .ok (.iadd, 1)) (d4 : decode code (pc + 1 + 1 + 1 + 1) = .ok (.iaload, 1))
    (kk : W p l e room_1 s m #[Value.ref b] below meth c H locs 65 2089 Q (F0 m (pc + 1 + 1 + 1 + 1 + 1) ls (.int (oI (xs (i + k)).toInt) :: rest))) : W p l e room_1 s m #[Value.ref b] below meth c H locs 65 2089 Q (F0 m pc ls rest) := by
  obtain ⟨hx, hb, hr, hml, hown, hts, hX, hbl, hlocks, hgv⟩ := id C0
  obtain ⟨hWo, hS, hl⟩ := h
  refine lv_aload_n hx hb d0 rfl (lv_at hl 0 rfl) ?_
  refine lv_iload_n hx hb d1 rfl (lv_at hl 3 rfl) ?_
  refine lv_iconst (v := nI k) hx hb d2 hk ?_
  refine lv_iadd hx hb d3 ?_
  rw [nI_add]
  refine va_sld hx hb hX hbl (Nat.not_le.mpr hbl) hS (vp_in_nI hi (by omega)) d4 ?_
  rw [nI_clamp (by omega)]
  have e0 : oI (xs (i + k)).toInt = xs (i + k) := Int32.ofInt_toInt ..
  rw [e0] at kk
  exact kk
/-- the law calls the object -/
theorem law_c1 {n i j k pl : Nat} {As : List PV} {y : Int32} (C0 : lw_At p s m meth c b L xs) (h : Lst s D b y ls μ ad cA tys H locs) (hk : LK[n]? = some (i, j, pl)) (hd : decode code pc = .ok (.invokevirtual i, 3)) (hn : (vR 0 :: As).length = mN j) (hArg : argOk j (vR 0 :: As) SH = true) (hOk : ∀ v ∈ vR 0 :: As, okV SH.length v) (hw : Wp j 0 (entL j (vR 0 :: As)) [] μ (Tw k (entL k (vR 47 :: As))))
    (kk : ∀ (r : Int) (μ' : Mu) (ad' : Nat → Nat) (cA' : Nat → ClassId) (tys' : List (ClassId × FieldType)) (H' : Heap) (locs' : List Loc), Wp k 0 (entL k (vR 47 :: As)) [] μ' (fun r2 μ2 => r2 = some (vI r) ∧ Inv μ2) → Lst s D b y ls μ' ad' cA' tys' H' locs' → W p l e room_1 s m #[Value.ref b] below meth c H' locs' 65 2089 Q (F0 m (pc + 3) ls [.int (oI r)])) :
    W p l e room_1 s m #[Value.ref b] below meth c H locs 65 2089 Q (F0 m pc ls (((vR 0 :: As).map (trV ad)).reverse ++ [])) := by
  obtain ⟨hWo, hS, hl⟩ := h
  refine law_call C0 hWo hS hk hd hl.1 hn hArg hOk (by decide) ⟨Nat.le_refl _, Nat.le_refl _⟩ hw (fun r μ' ad' cA' tys' H' locs' hR hok hag hWo' hS' => ?_)
  obtain ⟨r0, rfl, hw2⟩ := hR
  exact kk r0 μ' ad' cA' tys' H' locs' hw2 ⟨hWo', hS', by rw [hag 0 (by decide), hag 47 (by decide)]; exact hl⟩
/-- the law calls the model, and both answers are one -/
theorem law_c2 {n i k pl : Nat} {As : List PV} {y : Int32} {r : Int} {off : Int} (C0 : lw_At p s m meth c b L xs) (h : Lst s D b y ls μ ad cA tys H locs) (hk : LK[n]? = some (i, k, pl)) (hd : decode code pc = .ok (.invokevirtual i, 3)) (hn : (vR 47 :: As).length = mN k) (hArg : argOk k (vR 47 :: As) SH = true) (hOk : ∀ v ∈ vR 47 :: As, okV SH.length v) (hw : Wp k 0 (entL k (vR 47 :: As)) [] μ (fun r2 μ2 => r2 = some (vI r) ∧ Inv μ2)) (hd2 : decode code (pc + 3) = .ok (.if_icmp .eq off, 3)) (ht : ((pc + 3 : Nat) : Int) + off = ((742 : Nat) : Int))
    (kk : ∀ (μ' : Mu) (ad' : Nat → Nat) (cA' : Nat → ClassId) (tys' : List (ClassId × FieldType)) (H' : Heap) (locs' : List Loc), Inv μ' → Lst s D b y ls μ' ad' cA' tys' H' locs' → W p l e room_1 s m #[Value.ref b] below meth c H' locs' 65 2089 Q (F0 m 742 ls [])) :
    W p l e room_1 s m #[Value.ref b] below meth c H locs 65 2089 Q (F0 m pc ls (((vR 47 :: As).map (trV ad)).reverse ++ [.int (oI r)])) := by
  have hx := C0.1
  have hb := C0.2.1
  obtain ⟨hWo, hS, hl⟩ := h
  refine law_call C0 hWo hS hk hd hl.1 hn hArg hOk (by simp [Value.category]) ⟨Nat.le_refl _, Nat.le_refl _⟩ hw (fun r1 μ' ad' cA' tys' H' locs' hR hok hag hWo' hS' => ?_)
  obtain ⟨rfl, hI⟩ := hR
  refine lv_icmp_eq (tgt := 742) hx hb hd2 ht (fun _ => ?_) (fun z => absurd rfl z)
  exact kk μ' ad' cA' tys' H' locs' hI ⟨hWo', hS', by rw [hag 0 (by decide), hag 47 (by decide)]; exact hl⟩
theorem lc_type {i : Nat} (C0 : lw_At p s m meth c b L xs) (hL : L ≤ 2560) (hi : i + 5 ≤ L) (hI : Inv μ) (h : Lst s D b (nI i) ls μ ad cA tys H locs) (kk : ∀ (μ' : Mu) (ad' : Nat → Nat) (cA' : Nat → ClassId) (tys' : List (ClassId × FieldType)) (H' : Heap) (locs' : List Loc), Inv μ' → Lst s D b (nI i) ls μ' ad' cA' tys' H' locs' → W p l e room_1 s m #[Value.ref b] below meth c H' locs' 65 2089 Q (F0 m 742 ls [])) : W p l e room_1 s m #[Value.ref b] below meth c H locs 65 2089 Q (F0 m 136 ls []) := by
  have hx := C0.1
  have hb := C0.2.1
  have hl := h.2.2
  refine lv_aload_n hx hb dl136 rfl (lv_at hl 1 rfl) ?_
  refine law_arg (i := i) (k := 1) C0 hL h (by omega) (by decide) dl137 dl138 dl139 dl140 dl141 ?_
  refine law_c1 (As := [vI (xs (i + 1)).toInt]) (k := 122) (n := 0) C0 h rfl dl142 rfl rfl (List.forall_mem_cons.mpr ⟨(show 0 < SH.length by decide), List.forall_mem_cons.mpr ⟨okx _, fun _ z => absurd z List.not_mem_nil⟩⟩) (tw_type hI _) (fun r μ ad cA tys H locs hw h => ?_)
  refine lv_aload_n hx hb dl145 rfl (lv_at h.2.2 2 rfl) ?_
  refine law_arg (i := i) (k := 1) C0 hL h (by omega) (by decide) dl146 dl147 dl148 dl149 dl150 ?_
  exact law_c2 (As := [vI (xs (i + 1)).toInt]) (n := 22) C0 h rfl dl151 rfl rfl (List.forall_mem_cons.mpr ⟨(show 47 < SH.length by decide), List.forall_mem_cons.mpr ⟨okx _, fun _ z => absurd z List.not_mem_nil⟩⟩) hw dl154 (by decide) kk
theorem lc_clear {i : Nat} (C0 : lw_At p s m meth c b L xs) (hL : L ≤ 2560) (hi : i + 5 ≤ L) (hI : Inv μ) (h : Lst s D b (nI i) ls μ ad cA tys H locs) (kk : ∀ (μ' : Mu) (ad' : Nat → Nat) (cA' : Nat → ClassId) (tys' : List (ClassId × FieldType)) (H' : Heap) (locs' : List Loc), Inv μ' → Lst s D b (nI i) ls μ' ad' cA' tys' H' locs' → W p l e room_1 s m #[Value.ref b] below meth c H' locs' 65 2089 Q (F0 m 742 ls [])) : W p l e room_1 s m #[Value.ref b] below meth c H locs 65 2089 Q (F0 m 159 ls []) := by
  have hx := C0.1
  have hb := C0.2.1
  have hl := h.2.2
  refine lv_aload_n hx hb dl159 rfl (lv_at hl 1 rfl) ?_
  refine law_c1 (As := []) (k := 123) (n := 1) C0 h rfl dl160 rfl rfl (List.forall_mem_cons.mpr ⟨(show 0 < SH.length by decide), fun _ z => absurd z List.not_mem_nil⟩) (tw_clear hI) (fun r μ ad cA tys H locs hw h => ?_)
  refine lv_aload_n hx hb dl163 rfl (lv_at h.2.2 2 rfl) ?_
  exact law_c2 (As := []) (n := 23) C0 h rfl dl164 rfl rfl (List.forall_mem_cons.mpr ⟨(show 47 < SH.length by decide), fun _ z => absurd z List.not_mem_nil⟩) hw dl167 (by decide) kk
theorem lc_history {i : Nat} (C0 : lw_At p s m meth c b L xs) (hL : L ≤ 2560) (hi : i + 5 ≤ L) (hI : Inv μ) (h : Lst s D b (nI i) ls μ ad cA tys H locs) (kk : ∀ (μ' : Mu) (ad' : Nat → Nat) (cA' : Nat → ClassId) (tys' : List (ClassId × FieldType)) (H' : Heap) (locs' : List Loc), Inv μ' → Lst s D b (nI i) ls μ' ad' cA' tys' H' locs' → W p l e room_1 s m #[Value.ref b] below meth c H' locs' 65 2089 Q (F0 m 742 ls [])) : W p l e room_1 s m #[Value.ref b] below meth c H locs 65 2089 Q (F0 m 172 ls []) := by
  have hx := C0.1
  have hb := C0.2.1
  have hl := h.2.2
  refine lv_aload_n hx hb dl172 rfl (lv_at hl 1 rfl) ?_
  refine law_c1 (As := []) (k := 128) (n := 2) C0 h rfl dl173 rfl rfl (List.forall_mem_cons.mpr ⟨(show 0 < SH.length by decide), fun _ z => absurd z List.not_mem_nil⟩) (tw_history hI) (fun r μ ad cA tys H locs hw h => ?_)
  refine lv_aload_n hx hb dl176 rfl (lv_at h.2.2 2 rfl) ?_
  exact law_c2 (As := []) (n := 24) C0 h rfl dl177 rfl rfl (List.forall_mem_cons.mpr ⟨(show 47 < SH.length by decide), fun _ z => absurd z List.not_mem_nil⟩) hw dl180 (by decide) kk
theorem lc_revision {i : Nat} (C0 : lw_At p s m meth c b L xs) (hL : L ≤ 2560) (hi : i + 5 ≤ L) (hI : Inv μ) (h : Lst s D b (nI i) ls μ ad cA tys H locs) (kk : ∀ (μ' : Mu) (ad' : Nat → Nat) (cA' : Nat → ClassId) (tys' : List (ClassId × FieldType)) (H' : Heap) (locs' : List Loc), Inv μ' → Lst s D b (nI i) ls μ' ad' cA' tys' H' locs' → W p l e room_1 s m #[Value.ref b] below meth c H' locs' 65 2089 Q (F0 m 742 ls [])) : W p l e room_1 s m #[Value.ref b] below meth c H locs 65 2089 Q (F0 m 185 ls []) := by
  have hx := C0.1
  have hb := C0.2.1
  have hl := h.2.2
  refine lv_aload_n hx hb dl185 rfl (lv_at hl 1 rfl) ?_
  refine law_arg (i := i) (k := 1) C0 hL h (by omega) (by decide) dl186 dl187 dl188 dl189 dl190 ?_
  refine law_arg (i := i) (k := 2) C0 hL h (by omega) (by decide) dl191 dl192 dl193 dl194 dl195 ?_
  refine law_c1 (As := [vI (xs (i + 1)).toInt, vI (xs (i + 2)).toInt]) (k := 140) (n := 3) C0 h rfl dl196 rfl rfl (List.forall_mem_cons.mpr ⟨(show 0 < SH.length by decide), List.forall_mem_cons.mpr ⟨okx _, List.forall_mem_cons.mpr ⟨okx _, fun _ z => absurd z List.not_mem_nil⟩⟩⟩) (tw_revision hI _ _) (fun r μ ad cA tys H locs hw h => ?_)
  refine lv_aload_n hx hb dl199 rfl (lv_at h.2.2 2 rfl) ?_
  refine law_arg (i := i) (k := 1) C0 hL h (by omega) (by decide) dl200 dl201 dl202 dl203 dl204 ?_
  refine law_arg (i := i) (k := 2) C0 hL h (by omega) (by decide) dl205 dl206 dl207 dl208 dl209 ?_
  exact law_c2 (As := [vI (xs (i + 1)).toInt, vI (xs (i + 2)).toInt]) (n := 25) C0 h rfl dl210 rfl rfl (List.forall_mem_cons.mpr ⟨(show 47 < SH.length by decide), List.forall_mem_cons.mpr ⟨okx _, List.forall_mem_cons.mpr ⟨okx _, fun _ z => absurd z List.not_mem_nil⟩⟩⟩) hw dl213 (by decide) kk
theorem lc_line {i : Nat} (C0 : lw_At p s m meth c b L xs) (hL : L ≤ 2560) (hi : i + 5 ≤ L) (hI : Inv μ) (h : Lst s D b (nI i) ls μ ad cA tys H locs) (kk : ∀ (μ' : Mu) (ad' : Nat → Nat) (cA' : Nat → ClassId) (tys' : List (ClassId × FieldType)) (H' : Heap) (locs' : List Loc), Inv μ' → Lst s D b (nI i) ls μ' ad' cA' tys' H' locs' → W p l e room_1 s m #[Value.ref b] below meth c H' locs' 65 2089 Q (F0 m 742 ls [])) : W p l e room_1 s m #[Value.ref b] below meth c H locs 65 2089 Q (F0 m 218 ls []) := by
  have hx := C0.1
  have hb := C0.2.1
  have hl := h.2.2
  refine lv_aload_n hx hb dl218 rfl (lv_at hl 1 rfl) ?_
  refine law_arg (i := i) (k := 1) C0 hL h (by omega) (by decide) dl219 dl220 dl221 dl222 dl223 ?_
  refine law_arg (i := i) (k := 2) C0 hL h (by omega) (by decide) dl224 dl225 dl226 dl227 dl228 ?_
  refine law_arg (i := i) (k := 3) C0 hL h (by omega) (by decide) dl229 dl230 dl231 dl232 dl233 ?_
  refine law_c1 (As := [vI (xs (i + 1)).toInt, vI (xs (i + 2)).toInt, vI (xs (i + 3)).toInt]) (k := 141) (n := 4) C0 h rfl dl234 rfl rfl (List.forall_mem_cons.mpr ⟨(show 0 < SH.length by decide), List.forall_mem_cons.mpr ⟨okx _, List.forall_mem_cons.mpr ⟨okx _, List.forall_mem_cons.mpr ⟨okx _, fun _ z => absurd z List.not_mem_nil⟩⟩⟩⟩) (tw_line hI _ _ _) (fun r μ ad cA tys H locs hw h => ?_)
  refine lv_aload_n hx hb dl237 rfl (lv_at h.2.2 2 rfl) ?_
  refine law_arg (i := i) (k := 1) C0 hL h (by omega) (by decide) dl238 dl239 dl240 dl241 dl242 ?_
  refine law_arg (i := i) (k := 2) C0 hL h (by omega) (by decide) dl243 dl244 dl245 dl246 dl247 ?_
  refine law_arg (i := i) (k := 3) C0 hL h (by omega) (by decide) dl248 dl249 dl250 dl251 dl252 ?_
  exact law_c2 (As := [vI (xs (i + 1)).toInt, vI (xs (i + 2)).toInt, vI (xs (i + 3)).toInt]) (n := 26) C0 h rfl dl253 rfl rfl (List.forall_mem_cons.mpr ⟨(show 47 < SH.length by decide), List.forall_mem_cons.mpr ⟨okx _, List.forall_mem_cons.mpr ⟨okx _, List.forall_mem_cons.mpr ⟨okx _, fun _ z => absurd z List.not_mem_nil⟩⟩⟩⟩) hw dl256 (by decide) kk
theorem lc_blocks {i : Nat} (C0 : lw_At p s m meth c b L xs) (hL : L ≤ 2560) (hi : i + 5 ≤ L) (hI : Inv μ) (h : Lst s D b (nI i) ls μ ad cA tys H locs) (kk : ∀ (μ' : Mu) (ad' : Nat → Nat) (cA' : Nat → ClassId) (tys' : List (ClassId × FieldType)) (H' : Heap) (locs' : List Loc), Inv μ' → Lst s D b (nI i) ls μ' ad' cA' tys' H' locs' → W p l e room_1 s m #[Value.ref b] below meth c H' locs' 65 2089 Q (F0 m 742 ls [])) : W p l e room_1 s m #[Value.ref b] below meth c H locs 65 2089 Q (F0 m 261 ls []) := by
  have hx := C0.1
  have hb := C0.2.1
  have hl := h.2.2
  refine lv_aload_n hx hb dl261 rfl (lv_at hl 1 rfl) ?_
  refine law_arg (i := i) (k := 1) C0 hL h (by omega) (by decide) dl262 dl263 dl264 dl265 dl266 ?_
  refine law_c1 (As := [vI (xs (i + 1)).toInt]) (k := 143) (n := 5) C0 h rfl dl267 rfl rfl (List.forall_mem_cons.mpr ⟨(show 0 < SH.length by decide), List.forall_mem_cons.mpr ⟨okx _, fun _ z => absurd z List.not_mem_nil⟩⟩) (tw_blocks hI _) (fun r μ ad cA tys H locs hw h => ?_)
  refine lv_aload_n hx hb dl270 rfl (lv_at h.2.2 2 rfl) ?_
  refine law_arg (i := i) (k := 1) C0 hL h (by omega) (by decide) dl271 dl272 dl273 dl274 dl275 ?_
  exact law_c2 (As := [vI (xs (i + 1)).toInt]) (n := 27) C0 h rfl dl276 rfl rfl (List.forall_mem_cons.mpr ⟨(show 47 < SH.length by decide), List.forall_mem_cons.mpr ⟨okx _, fun _ z => absurd z List.not_mem_nil⟩⟩) hw dl279 (by decide) kk
theorem lc_passes {i : Nat} (C0 : lw_At p s m meth c b L xs) (hL : L ≤ 2560) (hi : i + 5 ≤ L) (hI : Inv μ) (h : Lst s D b (nI i) ls μ ad cA tys H locs) (kk : ∀ (μ' : Mu) (ad' : Nat → Nat) (cA' : Nat → ClassId) (tys' : List (ClassId × FieldType)) (H' : Heap) (locs' : List Loc), Inv μ' → Lst s D b (nI i) ls μ' ad' cA' tys' H' locs' → W p l e room_1 s m #[Value.ref b] below meth c H' locs' 65 2089 Q (F0 m 742 ls [])) : W p l e room_1 s m #[Value.ref b] below meth c H locs 65 2089 Q (F0 m 284 ls []) := by
  have hx := C0.1
  have hb := C0.2.1
  have hl := h.2.2
  refine lv_aload_n hx hb dl284 rfl (lv_at hl 1 rfl) ?_
  refine law_arg (i := i) (k := 1) C0 hL h (by omega) (by decide) dl285 dl286 dl287 dl288 dl289 ?_
  refine law_c1 (As := [vI (xs (i + 1)).toInt]) (k := 144) (n := 6) C0 h rfl dl290 rfl rfl (List.forall_mem_cons.mpr ⟨(show 0 < SH.length by decide), List.forall_mem_cons.mpr ⟨okx _, fun _ z => absurd z List.not_mem_nil⟩⟩) (tw_passes hI _) (fun r μ ad cA tys H locs hw h => ?_)
  refine lv_aload_n hx hb dl293 rfl (lv_at h.2.2 2 rfl) ?_
  refine law_arg (i := i) (k := 1) C0 hL h (by omega) (by decide) dl294 dl295 dl296 dl297 dl298 ?_
  exact law_c2 (As := [vI (xs (i + 1)).toInt]) (n := 28) C0 h rfl dl299 rfl rfl (List.forall_mem_cons.mpr ⟨(show 47 < SH.length by decide), List.forall_mem_cons.mpr ⟨okx _, fun _ z => absurd z List.not_mem_nil⟩⟩) hw dl302 (by decide) kk
theorem lc_rules {i : Nat} (C0 : lw_At p s m meth c b L xs) (hL : L ≤ 2560) (hi : i + 5 ≤ L) (hI : Inv μ) (h : Lst s D b (nI i) ls μ ad cA tys H locs) (kk : ∀ (μ' : Mu) (ad' : Nat → Nat) (cA' : Nat → ClassId) (tys' : List (ClassId × FieldType)) (H' : Heap) (locs' : List Loc), Inv μ' → Lst s D b (nI i) ls μ' ad' cA' tys' H' locs' → W p l e room_1 s m #[Value.ref b] below meth c H' locs' 65 2089 Q (F0 m 742 ls [])) : W p l e room_1 s m #[Value.ref b] below meth c H locs 65 2089 Q (F0 m 307 ls []) := by
  have hx := C0.1
  have hb := C0.2.1
  have hl := h.2.2
  refine lv_aload_n hx hb dl307 rfl (lv_at hl 1 rfl) ?_
  refine law_arg (i := i) (k := 1) C0 hL h (by omega) (by decide) dl308 dl309 dl310 dl311 dl312 ?_
  refine law_c1 (As := [vI (xs (i + 1)).toInt]) (k := 145) (n := 7) C0 h rfl dl313 rfl rfl (List.forall_mem_cons.mpr ⟨(show 0 < SH.length by decide), List.forall_mem_cons.mpr ⟨okx _, fun _ z => absurd z List.not_mem_nil⟩⟩) (tw_rules hI _) (fun r μ ad cA tys H locs hw h => ?_)
  refine lv_aload_n hx hb dl316 rfl (lv_at h.2.2 2 rfl) ?_
  refine law_arg (i := i) (k := 1) C0 hL h (by omega) (by decide) dl317 dl318 dl319 dl320 dl321 ?_
  exact law_c2 (As := [vI (xs (i + 1)).toInt]) (n := 29) C0 h rfl dl322 rfl rfl (List.forall_mem_cons.mpr ⟨(show 47 < SH.length by decide), List.forall_mem_cons.mpr ⟨okx _, fun _ z => absurd z List.not_mem_nil⟩⟩) hw dl325 (by decide) kk
theorem lc_undo {i : Nat} (C0 : lw_At p s m meth c b L xs) (hL : L ≤ 2560) (hi : i + 5 ≤ L) (hI : Inv μ) (h : Lst s D b (nI i) ls μ ad cA tys H locs) (kk : ∀ (μ' : Mu) (ad' : Nat → Nat) (cA' : Nat → ClassId) (tys' : List (ClassId × FieldType)) (H' : Heap) (locs' : List Loc), Inv μ' → Lst s D b (nI i) ls μ' ad' cA' tys' H' locs' → W p l e room_1 s m #[Value.ref b] below meth c H' locs' 65 2089 Q (F0 m 742 ls [])) : W p l e room_1 s m #[Value.ref b] below meth c H locs 65 2089 Q (F0 m 330 ls []) := by
  have hx := C0.1
  have hb := C0.2.1
  have hl := h.2.2
  refine lv_aload_n hx hb dl330 rfl (lv_at hl 1 rfl) ?_
  refine law_c1 (As := []) (k := 146) (n := 8) C0 h rfl dl331 rfl rfl (List.forall_mem_cons.mpr ⟨(show 0 < SH.length by decide), fun _ z => absurd z List.not_mem_nil⟩) (tw_undo hI) (fun r μ ad cA tys H locs hw h => ?_)
  refine lv_aload_n hx hb dl334 rfl (lv_at h.2.2 2 rfl) ?_
  exact law_c2 (As := []) (n := 30) C0 h rfl dl335 rfl rfl (List.forall_mem_cons.mpr ⟨(show 47 < SH.length by decide), fun _ z => absurd z List.not_mem_nil⟩) hw dl338 (by decide) kk
theorem lc_gives {i : Nat} (C0 : lw_At p s m meth c b L xs) (hL : L ≤ 2560) (hi : i + 5 ≤ L) (hI : Inv μ) (h : Lst s D b (nI i) ls μ ad cA tys H locs) (kk : ∀ (μ' : Mu) (ad' : Nat → Nat) (cA' : Nat → ClassId) (tys' : List (ClassId × FieldType)) (H' : Heap) (locs' : List Loc), Inv μ' → Lst s D b (nI i) ls μ' ad' cA' tys' H' locs' → W p l e room_1 s m #[Value.ref b] below meth c H' locs' 65 2089 Q (F0 m 742 ls [])) : W p l e room_1 s m #[Value.ref b] below meth c H locs 65 2089 Q (F0 m 343 ls []) := by
  have hx := C0.1
  have hb := C0.2.1
  have hl := h.2.2
  refine lv_aload_n hx hb dl343 rfl (lv_at hl 1 rfl) ?_
  refine law_arg (i := i) (k := 1) C0 hL h (by omega) (by decide) dl344 dl345 dl346 dl347 dl348 ?_
  refine law_arg (i := i) (k := 2) C0 hL h (by omega) (by decide) dl349 dl350 dl351 dl352 dl353 ?_
  refine law_arg (i := i) (k := 3) C0 hL h (by omega) (by decide) dl354 dl355 dl356 dl357 dl358 ?_
  refine law_c1 (As := [vI (xs (i + 1)).toInt, vI (xs (i + 2)).toInt, vI (xs (i + 3)).toInt]) (k := 147) (n := 9) C0 h rfl dl359 rfl rfl (List.forall_mem_cons.mpr ⟨(show 0 < SH.length by decide), List.forall_mem_cons.mpr ⟨okx _, List.forall_mem_cons.mpr ⟨okx _, List.forall_mem_cons.mpr ⟨okx _, fun _ z => absurd z List.not_mem_nil⟩⟩⟩⟩) (tw_gives hI _ _ _) (fun r μ ad cA tys H locs hw h => ?_)
  refine lv_aload_n hx hb dl362 rfl (lv_at h.2.2 2 rfl) ?_
  refine law_arg (i := i) (k := 1) C0 hL h (by omega) (by decide) dl363 dl364 dl365 dl366 dl367 ?_
  refine law_arg (i := i) (k := 2) C0 hL h (by omega) (by decide) dl368 dl369 dl370 dl371 dl372 ?_
  refine law_arg (i := i) (k := 3) C0 hL h (by omega) (by decide) dl373 dl374 dl375 dl376 dl377 ?_
  exact law_c2 (As := [vI (xs (i + 1)).toInt, vI (xs (i + 2)).toInt, vI (xs (i + 3)).toInt]) (n := 31) C0 h rfl dl378 rfl rfl (List.forall_mem_cons.mpr ⟨(show 47 < SH.length by decide), List.forall_mem_cons.mpr ⟨okx _, List.forall_mem_cons.mpr ⟨okx _, List.forall_mem_cons.mpr ⟨okx _, fun _ z => absurd z List.not_mem_nil⟩⟩⟩⟩) hw dl381 (by decide) kk
theorem lc_begun {i : Nat} (C0 : lw_At p s m meth c b L xs) (hL : L ≤ 2560) (hi : i + 5 ≤ L) (hI : Inv μ) (h : Lst s D b (nI i) ls μ ad cA tys H locs) (kk : ∀ (μ' : Mu) (ad' : Nat → Nat) (cA' : Nat → ClassId) (tys' : List (ClassId × FieldType)) (H' : Heap) (locs' : List Loc), Inv μ' → Lst s D b (nI i) ls μ' ad' cA' tys' H' locs' → W p l e room_1 s m #[Value.ref b] below meth c H' locs' 65 2089 Q (F0 m 742 ls [])) : W p l e room_1 s m #[Value.ref b] below meth c H locs 65 2089 Q (F0 m 386 ls []) := by
  have hx := C0.1
  have hb := C0.2.1
  have hl := h.2.2
  refine lv_aload_n hx hb dl386 rfl (lv_at hl 1 rfl) ?_
  refine law_arg (i := i) (k := 1) C0 hL h (by omega) (by decide) dl387 dl388 dl389 dl390 dl391 ?_
  refine law_arg (i := i) (k := 2) C0 hL h (by omega) (by decide) dl392 dl393 dl394 dl395 dl396 ?_
  refine law_c1 (As := [vI (xs (i + 1)).toInt, vI (xs (i + 2)).toInt]) (k := 148) (n := 10) C0 h rfl dl397 rfl rfl (List.forall_mem_cons.mpr ⟨(show 0 < SH.length by decide), List.forall_mem_cons.mpr ⟨okx _, List.forall_mem_cons.mpr ⟨okx _, fun _ z => absurd z List.not_mem_nil⟩⟩⟩) (tw_begun hI _ _) (fun r μ ad cA tys H locs hw h => ?_)
  refine lv_aload_n hx hb dl400 rfl (lv_at h.2.2 2 rfl) ?_
  refine law_arg (i := i) (k := 1) C0 hL h (by omega) (by decide) dl401 dl402 dl403 dl404 dl405 ?_
  refine law_arg (i := i) (k := 2) C0 hL h (by omega) (by decide) dl406 dl407 dl408 dl409 dl410 ?_
  exact law_c2 (As := [vI (xs (i + 1)).toInt, vI (xs (i + 2)).toInt]) (n := 32) C0 h rfl dl411 rfl rfl (List.forall_mem_cons.mpr ⟨(show 47 < SH.length by decide), List.forall_mem_cons.mpr ⟨okx _, List.forall_mem_cons.mpr ⟨okx _, fun _ z => absurd z List.not_mem_nil⟩⟩⟩) hw dl414 (by decide) kk
theorem lc_age {i : Nat} (C0 : lw_At p s m meth c b L xs) (hL : L ≤ 2560) (hi : i + 5 ≤ L) (hI : Inv μ) (h : Lst s D b (nI i) ls μ ad cA tys H locs) (kk : ∀ (μ' : Mu) (ad' : Nat → Nat) (cA' : Nat → ClassId) (tys' : List (ClassId × FieldType)) (H' : Heap) (locs' : List Loc), Inv μ' → Lst s D b (nI i) ls μ' ad' cA' tys' H' locs' → W p l e room_1 s m #[Value.ref b] below meth c H' locs' 65 2089 Q (F0 m 742 ls [])) : W p l e room_1 s m #[Value.ref b] below meth c H locs 65 2089 Q (F0 m 419 ls []) := by
  have hx := C0.1
  have hb := C0.2.1
  have hl := h.2.2
  refine lv_aload_n hx hb dl419 rfl (lv_at hl 1 rfl) ?_
  refine law_arg (i := i) (k := 1) C0 hL h (by omega) (by decide) dl420 dl421 dl422 dl423 dl424 ?_
  refine law_arg (i := i) (k := 2) C0 hL h (by omega) (by decide) dl425 dl426 dl427 dl428 dl429 ?_
  refine law_c1 (As := [vI (xs (i + 1)).toInt, vI (xs (i + 2)).toInt]) (k := 149) (n := 11) C0 h rfl dl430 rfl rfl (List.forall_mem_cons.mpr ⟨(show 0 < SH.length by decide), List.forall_mem_cons.mpr ⟨okx _, List.forall_mem_cons.mpr ⟨okx _, fun _ z => absurd z List.not_mem_nil⟩⟩⟩) (tw_age hI _ _) (fun r μ ad cA tys H locs hw h => ?_)
  refine lv_aload_n hx hb dl433 rfl (lv_at h.2.2 2 rfl) ?_
  refine law_arg (i := i) (k := 1) C0 hL h (by omega) (by decide) dl434 dl435 dl436 dl437 dl438 ?_
  refine law_arg (i := i) (k := 2) C0 hL h (by omega) (by decide) dl439 dl440 dl441 dl442 dl443 ?_
  exact law_c2 (As := [vI (xs (i + 1)).toInt, vI (xs (i + 2)).toInt]) (n := 33) C0 h rfl dl444 rfl rfl (List.forall_mem_cons.mpr ⟨(show 47 < SH.length by decide), List.forall_mem_cons.mpr ⟨okx _, List.forall_mem_cons.mpr ⟨okx _, fun _ z => absurd z List.not_mem_nil⟩⟩⟩) hw dl447 (by decide) kk
theorem lc_like {i : Nat} (C0 : lw_At p s m meth c b L xs) (hL : L ≤ 2560) (hi : i + 5 ≤ L) (hI : Inv μ) (h : Lst s D b (nI i) ls μ ad cA tys H locs) (kk : ∀ (μ' : Mu) (ad' : Nat → Nat) (cA' : Nat → ClassId) (tys' : List (ClassId × FieldType)) (H' : Heap) (locs' : List Loc), Inv μ' → Lst s D b (nI i) ls μ' ad' cA' tys' H' locs' → W p l e room_1 s m #[Value.ref b] below meth c H' locs' 65 2089 Q (F0 m 742 ls [])) : W p l e room_1 s m #[Value.ref b] below meth c H locs 65 2089 Q (F0 m 452 ls []) := by
  have hx := C0.1
  have hb := C0.2.1
  have hl := h.2.2
  refine lv_aload_n hx hb dl452 rfl (lv_at hl 1 rfl) ?_
  refine law_arg (i := i) (k := 1) C0 hL h (by omega) (by decide) dl453 dl454 dl455 dl456 dl457 ?_
  refine law_arg (i := i) (k := 2) C0 hL h (by omega) (by decide) dl458 dl459 dl460 dl461 dl462 ?_
  refine law_arg (i := i) (k := 3) C0 hL h (by omega) (by decide) dl463 dl464 dl465 dl466 dl467 ?_
  refine law_c1 (As := [vI (xs (i + 1)).toInt, vI (xs (i + 2)).toInt, vI (xs (i + 3)).toInt]) (k := 151) (n := 12) C0 h rfl dl468 rfl rfl (List.forall_mem_cons.mpr ⟨(show 0 < SH.length by decide), List.forall_mem_cons.mpr ⟨okx _, List.forall_mem_cons.mpr ⟨okx _, List.forall_mem_cons.mpr ⟨okx _, fun _ z => absurd z List.not_mem_nil⟩⟩⟩⟩) (tw_like hI _ _ _) (fun r μ ad cA tys H locs hw h => ?_)
  refine lv_aload_n hx hb dl471 rfl (lv_at h.2.2 2 rfl) ?_
  refine law_arg (i := i) (k := 1) C0 hL h (by omega) (by decide) dl472 dl473 dl474 dl475 dl476 ?_
  refine law_arg (i := i) (k := 2) C0 hL h (by omega) (by decide) dl477 dl478 dl479 dl480 dl481 ?_
  refine law_arg (i := i) (k := 3) C0 hL h (by omega) (by decide) dl482 dl483 dl484 dl485 dl486 ?_
  exact law_c2 (As := [vI (xs (i + 1)).toInt, vI (xs (i + 2)).toInt, vI (xs (i + 3)).toInt]) (n := 34) C0 h rfl dl487 rfl rfl (List.forall_mem_cons.mpr ⟨(show 47 < SH.length by decide), List.forall_mem_cons.mpr ⟨okx _, List.forall_mem_cons.mpr ⟨okx _, List.forall_mem_cons.mpr ⟨okx _, fun _ z => absurd z List.not_mem_nil⟩⟩⟩⟩) hw dl490 (by decide) kk
theorem lc_carried {i : Nat} (C0 : lw_At p s m meth c b L xs) (hL : L ≤ 2560) (hi : i + 5 ≤ L) (hI : Inv μ) (h : Lst s D b (nI i) ls μ ad cA tys H locs) (kk : ∀ (μ' : Mu) (ad' : Nat → Nat) (cA' : Nat → ClassId) (tys' : List (ClassId × FieldType)) (H' : Heap) (locs' : List Loc), Inv μ' → Lst s D b (nI i) ls μ' ad' cA' tys' H' locs' → W p l e room_1 s m #[Value.ref b] below meth c H' locs' 65 2089 Q (F0 m 742 ls [])) : W p l e room_1 s m #[Value.ref b] below meth c H locs 65 2089 Q (F0 m 495 ls []) := by
  have hx := C0.1
  have hb := C0.2.1
  have hl := h.2.2
  refine lv_aload_n hx hb dl495 rfl (lv_at hl 1 rfl) ?_
  refine law_arg (i := i) (k := 1) C0 hL h (by omega) (by decide) dl496 dl497 dl498 dl499 dl500 ?_
  refine law_arg (i := i) (k := 2) C0 hL h (by omega) (by decide) dl501 dl502 dl503 dl504 dl505 ?_
  refine law_c1 (As := [vI (xs (i + 1)).toInt, vI (xs (i + 2)).toInt]) (k := 152) (n := 13) C0 h rfl dl506 rfl rfl (List.forall_mem_cons.mpr ⟨(show 0 < SH.length by decide), List.forall_mem_cons.mpr ⟨okx _, List.forall_mem_cons.mpr ⟨okx _, fun _ z => absurd z List.not_mem_nil⟩⟩⟩) (tw_carried hI _ _) (fun r μ ad cA tys H locs hw h => ?_)
  refine lv_aload_n hx hb dl509 rfl (lv_at h.2.2 2 rfl) ?_
  refine law_arg (i := i) (k := 1) C0 hL h (by omega) (by decide) dl510 dl511 dl512 dl513 dl514 ?_
  refine law_arg (i := i) (k := 2) C0 hL h (by omega) (by decide) dl515 dl516 dl517 dl518 dl519 ?_
  exact law_c2 (As := [vI (xs (i + 1)).toInt, vI (xs (i + 2)).toInt]) (n := 35) C0 h rfl dl520 rfl rfl (List.forall_mem_cons.mpr ⟨(show 47 < SH.length by decide), List.forall_mem_cons.mpr ⟨okx _, List.forall_mem_cons.mpr ⟨okx _, fun _ z => absurd z List.not_mem_nil⟩⟩⟩) hw dl523 (by decide) kk
theorem lc_kept {i : Nat} (C0 : lw_At p s m meth c b L xs) (hL : L ≤ 2560) (hi : i + 5 ≤ L) (hI : Inv μ) (h : Lst s D b (nI i) ls μ ad cA tys H locs) (kk : ∀ (μ' : Mu) (ad' : Nat → Nat) (cA' : Nat → ClassId) (tys' : List (ClassId × FieldType)) (H' : Heap) (locs' : List Loc), Inv μ' → Lst s D b (nI i) ls μ' ad' cA' tys' H' locs' → W p l e room_1 s m #[Value.ref b] below meth c H' locs' 65 2089 Q (F0 m 742 ls [])) : W p l e room_1 s m #[Value.ref b] below meth c H locs 65 2089 Q (F0 m 528 ls []) := by
  have hx := C0.1
  have hb := C0.2.1
  have hl := h.2.2
  refine lv_aload_n hx hb dl528 rfl (lv_at hl 1 rfl) ?_
  refine law_arg (i := i) (k := 1) C0 hL h (by omega) (by decide) dl529 dl530 dl531 dl532 dl533 ?_
  refine law_arg (i := i) (k := 2) C0 hL h (by omega) (by decide) dl534 dl535 dl536 dl537 dl538 ?_
  refine law_c1 (As := [vI (xs (i + 1)).toInt, vI (xs (i + 2)).toInt]) (k := 153) (n := 14) C0 h rfl dl539 rfl rfl (List.forall_mem_cons.mpr ⟨(show 0 < SH.length by decide), List.forall_mem_cons.mpr ⟨okx _, List.forall_mem_cons.mpr ⟨okx _, fun _ z => absurd z List.not_mem_nil⟩⟩⟩) (tw_kept hI _ _) (fun r μ ad cA tys H locs hw h => ?_)
  refine lv_aload_n hx hb dl542 rfl (lv_at h.2.2 2 rfl) ?_
  refine law_arg (i := i) (k := 1) C0 hL h (by omega) (by decide) dl543 dl544 dl545 dl546 dl547 ?_
  refine law_arg (i := i) (k := 2) C0 hL h (by omega) (by decide) dl548 dl549 dl550 dl551 dl552 ?_
  exact law_c2 (As := [vI (xs (i + 1)).toInt, vI (xs (i + 2)).toInt]) (n := 36) C0 h rfl dl553 rfl rfl (List.forall_mem_cons.mpr ⟨(show 47 < SH.length by decide), List.forall_mem_cons.mpr ⟨okx _, List.forall_mem_cons.mpr ⟨okx _, fun _ z => absurd z List.not_mem_nil⟩⟩⟩) hw dl556 (by decide) kk
theorem lc_common {i : Nat} (C0 : lw_At p s m meth c b L xs) (hL : L ≤ 2560) (hi : i + 5 ≤ L) (hI : Inv μ) (h : Lst s D b (nI i) ls μ ad cA tys H locs) (kk : ∀ (μ' : Mu) (ad' : Nat → Nat) (cA' : Nat → ClassId) (tys' : List (ClassId × FieldType)) (H' : Heap) (locs' : List Loc), Inv μ' → Lst s D b (nI i) ls μ' ad' cA' tys' H' locs' → W p l e room_1 s m #[Value.ref b] below meth c H' locs' 65 2089 Q (F0 m 742 ls [])) : W p l e room_1 s m #[Value.ref b] below meth c H locs 65 2089 Q (F0 m 561 ls []) := by
  have hx := C0.1
  have hb := C0.2.1
  have hl := h.2.2
  refine lv_aload_n hx hb dl561 rfl (lv_at hl 1 rfl) ?_
  refine law_arg (i := i) (k := 1) C0 hL h (by omega) (by decide) dl562 dl563 dl564 dl565 dl566 ?_
  refine law_arg (i := i) (k := 2) C0 hL h (by omega) (by decide) dl567 dl568 dl569 dl570 dl571 ?_
  refine law_c1 (As := [vI (xs (i + 1)).toInt, vI (xs (i + 2)).toInt]) (k := 154) (n := 15) C0 h rfl dl572 rfl rfl (List.forall_mem_cons.mpr ⟨(show 0 < SH.length by decide), List.forall_mem_cons.mpr ⟨okx _, List.forall_mem_cons.mpr ⟨okx _, fun _ z => absurd z List.not_mem_nil⟩⟩⟩) (tw_common hI _ _) (fun r μ ad cA tys H locs hw h => ?_)
  refine lv_aload_n hx hb dl575 rfl (lv_at h.2.2 2 rfl) ?_
  refine law_arg (i := i) (k := 1) C0 hL h (by omega) (by decide) dl576 dl577 dl578 dl579 dl580 ?_
  refine law_arg (i := i) (k := 2) C0 hL h (by omega) (by decide) dl581 dl582 dl583 dl584 dl585 ?_
  exact law_c2 (As := [vI (xs (i + 1)).toInt, vI (xs (i + 2)).toInt]) (n := 37) C0 h rfl dl586 rfl rfl (List.forall_mem_cons.mpr ⟨(show 47 < SH.length by decide), List.forall_mem_cons.mpr ⟨okx _, List.forall_mem_cons.mpr ⟨okx _, fun _ z => absurd z List.not_mem_nil⟩⟩⟩) hw dl589 (by decide) kk
theorem lc_sees {i : Nat} (C0 : lw_At p s m meth c b L xs) (hL : L ≤ 2560) (hi : i + 5 ≤ L) (hI : Inv μ) (h : Lst s D b (nI i) ls μ ad cA tys H locs) (kk : ∀ (μ' : Mu) (ad' : Nat → Nat) (cA' : Nat → ClassId) (tys' : List (ClassId × FieldType)) (H' : Heap) (locs' : List Loc), Inv μ' → Lst s D b (nI i) ls μ' ad' cA' tys' H' locs' → W p l e room_1 s m #[Value.ref b] below meth c H' locs' 65 2089 Q (F0 m 742 ls [])) : W p l e room_1 s m #[Value.ref b] below meth c H locs 65 2089 Q (F0 m 594 ls []) := by
  have hx := C0.1
  have hb := C0.2.1
  have hl := h.2.2
  refine lv_aload_n hx hb dl594 rfl (lv_at hl 1 rfl) ?_
  refine law_arg (i := i) (k := 1) C0 hL h (by omega) (by decide) dl595 dl596 dl597 dl598 dl599 ?_
  refine law_arg (i := i) (k := 2) C0 hL h (by omega) (by decide) dl600 dl601 dl602 dl603 dl604 ?_
  refine law_arg (i := i) (k := 3) C0 hL h (by omega) (by decide) dl605 dl606 dl607 dl608 dl609 ?_
  refine law_arg (i := i) (k := 4) C0 hL h (by omega) (by decide) dl610 dl611 dl612 dl613 dl614 ?_
  refine law_c1 (As := [vI (xs (i + 1)).toInt, vI (xs (i + 2)).toInt, vI (xs (i + 3)).toInt, vI (xs (i + 4)).toInt]) (k := 155) (n := 16) C0 h rfl dl615 rfl rfl (List.forall_mem_cons.mpr ⟨(show 0 < SH.length by decide), List.forall_mem_cons.mpr ⟨okx _, List.forall_mem_cons.mpr ⟨okx _, List.forall_mem_cons.mpr ⟨okx _, List.forall_mem_cons.mpr ⟨okx _, fun _ z => absurd z List.not_mem_nil⟩⟩⟩⟩⟩) (tw_sees hI _ _ _ _) (fun r μ ad cA tys H locs hw h => ?_)
  refine lv_aload_n hx hb dl618 rfl (lv_at h.2.2 2 rfl) ?_
  refine law_arg (i := i) (k := 1) C0 hL h (by omega) (by decide) dl619 dl620 dl621 dl622 dl623 ?_
  refine law_arg (i := i) (k := 2) C0 hL h (by omega) (by decide) dl624 dl625 dl626 dl627 dl628 ?_
  refine law_arg (i := i) (k := 3) C0 hL h (by omega) (by decide) dl629 dl630 dl631 dl632 dl633 ?_
  refine law_arg (i := i) (k := 4) C0 hL h (by omega) (by decide) dl634 dl635 dl636 dl637 dl638 ?_
  exact law_c2 (As := [vI (xs (i + 1)).toInt, vI (xs (i + 2)).toInt, vI (xs (i + 3)).toInt, vI (xs (i + 4)).toInt]) (n := 38) C0 h rfl dl639 rfl rfl (List.forall_mem_cons.mpr ⟨(show 47 < SH.length by decide), List.forall_mem_cons.mpr ⟨okx _, List.forall_mem_cons.mpr ⟨okx _, List.forall_mem_cons.mpr ⟨okx _, List.forall_mem_cons.mpr ⟨okx _, fun _ z => absurd z List.not_mem_nil⟩⟩⟩⟩⟩) hw dl642 (by decide) kk
theorem lc_forget {i : Nat} (C0 : lw_At p s m meth c b L xs) (hL : L ≤ 2560) (hi : i + 5 ≤ L) (hI : Inv μ) (h : Lst s D b (nI i) ls μ ad cA tys H locs) (kk : ∀ (μ' : Mu) (ad' : Nat → Nat) (cA' : Nat → ClassId) (tys' : List (ClassId × FieldType)) (H' : Heap) (locs' : List Loc), Inv μ' → Lst s D b (nI i) ls μ' ad' cA' tys' H' locs' → W p l e room_1 s m #[Value.ref b] below meth c H' locs' 65 2089 Q (F0 m 742 ls [])) : W p l e room_1 s m #[Value.ref b] below meth c H locs 65 2089 Q (F0 m 647 ls []) := by
  have hx := C0.1
  have hb := C0.2.1
  have hl := h.2.2
  refine lv_aload_n hx hb dl647 rfl (lv_at hl 1 rfl) ?_
  refine law_c1 (As := []) (k := 156) (n := 17) C0 h rfl dl648 rfl rfl (List.forall_mem_cons.mpr ⟨(show 0 < SH.length by decide), fun _ z => absurd z List.not_mem_nil⟩) (tw_forget hI) (fun r μ ad cA tys H locs hw h => ?_)
  refine lv_aload_n hx hb dl651 rfl (lv_at h.2.2 2 rfl) ?_
  exact law_c2 (As := []) (n := 39) C0 h rfl dl652 rfl rfl (List.forall_mem_cons.mpr ⟨(show 47 < SH.length by decide), fun _ z => absurd z List.not_mem_nil⟩) hw dl655 (by decide) kk
theorem lc_unseen {i : Nat} (C0 : lw_At p s m meth c b L xs) (hL : L ≤ 2560) (hi : i + 5 ≤ L) (hI : Inv μ) (h : Lst s D b (nI i) ls μ ad cA tys H locs) (kk : ∀ (μ' : Mu) (ad' : Nat → Nat) (cA' : Nat → ClassId) (tys' : List (ClassId × FieldType)) (H' : Heap) (locs' : List Loc), Inv μ' → Lst s D b (nI i) ls μ' ad' cA' tys' H' locs' → W p l e room_1 s m #[Value.ref b] below meth c H' locs' 65 2089 Q (F0 m 742 ls [])) : W p l e room_1 s m #[Value.ref b] below meth c H locs 65 2089 Q (F0 m 660 ls []) := by
  have hx := C0.1
  have hb := C0.2.1
  have hl := h.2.2
  refine lv_aload_n hx hb dl660 rfl (lv_at hl 1 rfl) ?_
  refine law_c1 (As := []) (k := 158) (n := 18) C0 h rfl dl661 rfl rfl (List.forall_mem_cons.mpr ⟨(show 0 < SH.length by decide), fun _ z => absurd z List.not_mem_nil⟩) (tw_unseen hI) (fun r μ ad cA tys H locs hw h => ?_)
  refine lv_aload_n hx hb dl664 rfl (lv_at h.2.2 2 rfl) ?_
  exact law_c2 (As := []) (n := 40) C0 h rfl dl665 rfl rfl (List.forall_mem_cons.mpr ⟨(show 47 < SH.length by decide), fun _ z => absurd z List.not_mem_nil⟩) hw dl668 (by decide) kk
theorem lc_keep {i : Nat} (C0 : lw_At p s m meth c b L xs) (hL : L ≤ 2560) (hi : i + 5 ≤ L) (hI : Inv μ) (h : Lst s D b (nI i) ls μ ad cA tys H locs) (kk : ∀ (μ' : Mu) (ad' : Nat → Nat) (cA' : Nat → ClassId) (tys' : List (ClassId × FieldType)) (H' : Heap) (locs' : List Loc), Inv μ' → Lst s D b (nI i) ls μ' ad' cA' tys' H' locs' → W p l e room_1 s m #[Value.ref b] below meth c H' locs' 65 2089 Q (F0 m 742 ls [])) : W p l e room_1 s m #[Value.ref b] below meth c H locs 65 2089 Q (F0 m 673 ls []) := by
  have hx := C0.1
  have hb := C0.2.1
  have hl := h.2.2
  refine lv_aload_n hx hb dl673 rfl (lv_at hl 1 rfl) ?_
  refine law_arg (i := i) (k := 1) C0 hL h (by omega) (by decide) dl674 dl675 dl676 dl677 dl678 ?_
  refine law_c1 (As := [vI (xs (i + 1)).toInt]) (k := 159) (n := 19) C0 h rfl dl679 rfl rfl (List.forall_mem_cons.mpr ⟨(show 0 < SH.length by decide), List.forall_mem_cons.mpr ⟨okx _, fun _ z => absurd z List.not_mem_nil⟩⟩) (tw_keep hI _) (fun r μ ad cA tys H locs hw h => ?_)
  refine lv_aload_n hx hb dl682 rfl (lv_at h.2.2 2 rfl) ?_
  refine law_arg (i := i) (k := 1) C0 hL h (by omega) (by decide) dl683 dl684 dl685 dl686 dl687 ?_
  exact law_c2 (As := [vI (xs (i + 1)).toInt]) (n := 41) C0 h rfl dl688 rfl rfl (List.forall_mem_cons.mpr ⟨(show 47 < SH.length by decide), List.forall_mem_cons.mpr ⟨okx _, fun _ z => absurd z List.not_mem_nil⟩⟩) hw dl691 (by decide) kk
theorem lc_back {i : Nat} (C0 : lw_At p s m meth c b L xs) (hL : L ≤ 2560) (hi : i + 5 ≤ L) (hI : Inv μ) (h : Lst s D b (nI i) ls μ ad cA tys H locs) (kk : ∀ (μ' : Mu) (ad' : Nat → Nat) (cA' : Nat → ClassId) (tys' : List (ClassId × FieldType)) (H' : Heap) (locs' : List Loc), Inv μ' → Lst s D b (nI i) ls μ' ad' cA' tys' H' locs' → W p l e room_1 s m #[Value.ref b] below meth c H' locs' 65 2089 Q (F0 m 742 ls [])) : W p l e room_1 s m #[Value.ref b] below meth c H locs 65 2089 Q (F0 m 696 ls []) := by
  have hx := C0.1
  have hb := C0.2.1
  have hl := h.2.2
  refine lv_aload_n hx hb dl696 rfl (lv_at hl 1 rfl) ?_
  refine law_arg (i := i) (k := 1) C0 hL h (by omega) (by decide) dl697 dl698 dl699 dl700 dl701 ?_
  refine law_c1 (As := [vI (xs (i + 1)).toInt]) (k := 160) (n := 20) C0 h rfl dl702 rfl rfl (List.forall_mem_cons.mpr ⟨(show 0 < SH.length by decide), List.forall_mem_cons.mpr ⟨okx _, fun _ z => absurd z List.not_mem_nil⟩⟩) (tw_back hI _) (fun r μ ad cA tys H locs hw h => ?_)
  refine lv_aload_n hx hb dl705 rfl (lv_at h.2.2 2 rfl) ?_
  refine law_arg (i := i) (k := 1) C0 hL h (by omega) (by decide) dl706 dl707 dl708 dl709 dl710 ?_
  exact law_c2 (As := [vI (xs (i + 1)).toInt]) (n := 42) C0 h rfl dl711 rfl rfl (List.forall_mem_cons.mpr ⟨(show 47 < SH.length by decide), List.forall_mem_cons.mpr ⟨okx _, fun _ z => absurd z List.not_mem_nil⟩⟩) hw dl714 (by decide) kk
theorem lc_count {i : Nat} (C0 : lw_At p s m meth c b L xs) (hL : L ≤ 2560) (hi : i + 5 ≤ L) (hI : Inv μ) (h : Lst s D b (nI i) ls μ ad cA tys H locs) (kk : ∀ (μ' : Mu) (ad' : Nat → Nat) (cA' : Nat → ClassId) (tys' : List (ClassId × FieldType)) (H' : Heap) (locs' : List Loc), Inv μ' → Lst s D b (nI i) ls μ' ad' cA' tys' H' locs' → W p l e room_1 s m #[Value.ref b] below meth c H' locs' 65 2089 Q (F0 m 742 ls [])) : W p l e room_1 s m #[Value.ref b] below meth c H locs 65 2089 Q (F0 m 719 ls []) := by
  have hx := C0.1
  have hb := C0.2.1
  have hl := h.2.2
  refine lv_aload_n hx hb dl719 rfl (lv_at hl 1 rfl) ?_
  refine law_arg (i := i) (k := 1) C0 hL h (by omega) (by decide) dl720 dl721 dl722 dl723 dl724 ?_
  refine law_c1 (As := [vI (xs (i + 1)).toInt]) (k := 163) (n := 21) C0 h rfl dl725 rfl rfl (List.forall_mem_cons.mpr ⟨(show 0 < SH.length by decide), List.forall_mem_cons.mpr ⟨okx _, fun _ z => absurd z List.not_mem_nil⟩⟩) (tw_count hI _) (fun r μ ad cA tys H locs hw h => ?_)
  refine lv_aload_n hx hb dl728 rfl (lv_at h.2.2 2 rfl) ?_
  refine law_arg (i := i) (k := 1) C0 hL h (by omega) (by decide) dl729 dl730 dl731 dl732 dl733 ?_
  exact law_c2 (As := [vI (xs (i + 1)).toInt]) (n := 43) C0 h rfl dl734 rfl rfl (List.forall_mem_cons.mpr ⟨(show 47 < SH.length by decide), List.forall_mem_cons.mpr ⟨okx _, fun _ z => absurd z List.not_mem_nil⟩⟩) hw dl737 (by decide) kk
end LAWD
