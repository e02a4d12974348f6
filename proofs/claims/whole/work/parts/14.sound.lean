/-! THE PURE MACHINE IS SOUND: what it comes to, the machine comes to -/
theorem code_at {k pc : Nat} {en : En} (hk : k < 164) (h : cdAt k pc = some en) : ∃ len, decode (mB k) pc = .ok (en.1, len) ∧ okI k pc len en = true := by
  have h1 : (CD.getD k [])[pc]? = some (some en) := by
    unfold cdAt at h
    rw [List.getD_eq_getElem?_getD] at h
    cases hj : (CD.getD k [])[pc]? with
    | none => rw [hj] at h; cases h
    | some o => rw [hj] at h; exact congrArg some h
  have h2 := om_a164 k hk
  unfold okM at h2
  have h3 := List.all_eq_true.mp h2 (some en, pc) (List.mem_zipIdx_iff_getElem?.mpr h1)
  dsimp only at h3
  unfold okE at h3
  split at h3
  · rename_i i len hd
    rw [Bool.and_eq_true] at h3
    exact ⟨len, by rw [hd, of_decide_eq_true h3.1], h3.2⟩
  · cases h3
theorem cn_of {f : Nat} (IH : Snd f) {k pc' : Nat} {ls' : Lo} {st' : List PV} {M2 M' : Mem} {r : Option PV} (h : exec f k pc' ls' st' M2 = some (r, M'))
    {p : Program} {l : Launch} {e : Env} {s : State} {m : MethodId} {args : Array Value} {below : List Frame} {meth : Method} {c : Code} {D : va_G} {S : List Shp} {ad : Nat → Nat} {cA : Nat → ClassId} {A : Nat → Prop} {Qc : Array Value → State → Outcome → State → Prop} {free : Addr → Prop}
    (hX : Fx p s m args meth c k) (hA : ∀ q, s.heap.size ≤ q → A q) (hfree : ∀ q, A q → free q)
    (hQ : ∀ (ad' : Nat → Nat) (cA' : Nat → ClassId) (tys' : List (ClassId × FieldType)) (H' : Heap) (locs' : List Loc), (∀ x, x < S.length → ad' x = ad x ∧ cA' x = cA x) → S.length ≤ M'.1.length → Wo D M'.1 M'.2.1 ad' cA' tys' A s H' → va_S A s.heap H' locs' → (∀ v, r = some v → okV M'.1.length v) → ∀ t : State, t.heap = H' → s.WarmedH t.vm → Qc args s (.returned (r.map (trV ad'))) t) :
    Cn p l e s m args below meth c (MQ below Qc args s (mC k) (mS k) free) k D A S.length ad cA pc' ls' st' M2 := by
  intro ad1 cA1 tys1 H1 locs1 lsR1 hag hlen hWo hS hF hrc hrs
  obtain ⟨S2, μ2, rc2, rs2⟩ := M2
  exact IH k pc' ls' st' S2 μ2 rc2 rs2 r M' h ⟨hX, hWo, hS, hA, hF, hrc, hrs⟩ hfree (fun ad2 cA2 tys2 H2 locs2 hag2 hlen2 hWo2 hS2 hr2 => hQ ad2 cA2 tys2 H2 locs2 (fun x hx => ⟨((hag2 x (Nat.lt_of_lt_of_le hx hlen)).1).trans (hag x hx).1, ((hag2 x (Nat.lt_of_lt_of_le hx hlen)).2).trans (hag x hx).2⟩) (Nat.le_trans hlen hlen2) hWo2 hS2 hr2)
set_option maxHeartbeats 1000000 in
theorem snd_all : ∀ f, Snd f := by
  intro f
  induction f with
  | zero =>
    intro k pc ls st S μ rc rs r M' h
    have h2 : (none : Option (Option PV × Mem)) = some (r, M') := h
    cases h2
  | succ f IH =>
    intro k pc ls st S μ rc rs r M' h p l e s m args below meth c H locs D ad cA tys A lsR Qc free hy hfree hQ
    have hy0 := hy
    obtain ⟨hX, hWo, hS, hA, hF, hrc, hrs⟩ := hy
    unfold exec at h
    cases hc : cdAt k pc with
    | none => rw [hc] at h; cases h
    | some en =>
      rw [hc] at h
      dsimp only at h
      obtain ⟨len, hd, hok⟩ := code_at hX.1 hc
      obtain ⟨ins, nx, cv, a, b, tg⟩ := en
      dsimp only at h
      by_cases hret : ins = .return_
      · subst hret
        dsimp only at h
        split at h
        · rename_i hq
          obtain ⟨hq1, rfl⟩ := hq
          cases h
          unfold okI at hok
          dsimp only at hok
          have hlen : len = 1 := by simpa using hok
          subst hlen
          refine W.widen (k := mC k) (n := mS k) (Nat.sub_le _ _) (Nat.sub_le _ _) ?_
          exact W.vret hX.2.1 hX.2.2.1 (by rw [hX.2.2.2.1, hq1]; rfl) (fun t ht hW => hQ ad cA tys H locs (fun _ _ => ⟨rfl, rfl⟩) (Nat.le_refl _) hWo hS (fun v hv => by cases hv) t ht hW) (fun q hq => hfree _ (hS.2.2 q hq)) hd hX.2.2.2.2.2.2.2.1
        · cases h
      · by_cases hir : ins = .ireturn
        · subst hir
          dsimp only at h
          split at h
          · rename_i x
            split at h
            · rename_i hq
              cases h
              unfold okI at hok
              dsimp only at hok
              have hlen : len = 1 := by simpa using hok
              subst hlen
              have hx : iR x := hF.2.2.2.1 (vI x) (by simp)
              refine W.widen (k := mC k) (n := mS k) (Nat.sub_le _ _) (Nat.sub_le _ _) ?_
              have hfin : ∀ t : State, t.heap = H → s.WarmedH t.vm → Qc args s (.returned (some (.int (oI x)))) t := fun t ht hW => hQ ad cA tys H locs (fun _ _ => ⟨rfl, rfl⟩) (Nat.le_refl _) hWo hS (fun v hv => by cases hv; exact hx) t ht hW
              rcases hq with hq | ⟨hq, hb⟩
              · exact W.zret (ty := .int) (v := oI x) hX.2.1 hX.2.2.1 (by rw [hX.2.2.2.1, hq]; rfl) rfl hfin (fun q hq => hfree _ (hS.2.2 q hq)) hd hX.2.2.2.2.2.2.2.1
              · exact W.zret (ty := .boolean) (v := oI x) hX.2.1 hX.2.2.1 (by rw [hX.2.2.2.1, hq]; rfl) (by show Value.int (oI x &&& 1) = _; rw [oI_bit hb]) hfin (fun q hq => hfree _ (hS.2.2 q hq)) hd hX.2.2.2.2.2.2.2.1
            · cases h
          · cases h
        · have hh : (match cee (ins, nx, cv, a, b, tg) with
              | some j => if mN j ≤ st.length ∧ (st.drop (mN j)).length ≤ 4 ∧ argOk j (st.take (mN j)).reverse S = true ∧ mC j ≤ rc ∧ mS j ≤ rs then
                  (match exec f j 0 (entL j (st.take (mN j)).reverse) [] (S, μ, mC j, mS j) with
                    | some (r, M') => exec f k nx ls (r.toList ++ st.drop (mN j)) (M'.1, M'.2.1, rc - mC j, rs - mS j)
                    | none => none)
                else none
              | none => match stp (ins, nx, cv, a, b, tg) ls st (S, μ, rc, rs) with
                | some (pc', ls', st', M') => exec f k pc' ls' st' M'
                | none => none) = some (r, M') := by
            cases ins
            case return_ => exact absurd rfl hret
            case ireturn => exact absurd rfl hir
            all_goals exact h
          clear h
          cases hcee : cee (ins, nx, cv, a, b, tg) with
          | none =>
            rw [hcee] at hh
            dsimp only at hh
            cases hst : stp (ins, nx, cv, a, b, tg) ls st (S, μ, rc, rs) with
            | none => rw [hst] at hh; cases hh
            | some q =>
              obtain ⟨pc', ls', st', M2⟩ := q
              rw [hst] at hh
              dsimp only at hh
              exact stp_snd hy0 hd hok hst (cn_of IH hh hX hA hfree hQ)
          | some j =>
            rw [hcee] at hh
            dsimp only at hh
            split at hh
            · rename_i hq
              obtain ⟨q1, q2, q3, q4, q5⟩ := hq
              cases hex : exec f j 0 (entL j (st.take (mN j)).reverse) [] (S, μ, mC j, mS j) with
              | none => rw [hex] at hh; cases hh
              | some q =>
                obtain ⟨r1, M1⟩ := q
                rw [hex] at hh
                dsimp only at hh
                have hsplit : st = ((st.take (mN j)).reverse).reverse ++ st.drop (mN j) := by rw [List.reverse_reverse, List.take_append_drop]
                generalize hAs : (st.take (mN j)).reverse = As at *
                generalize hre : st.drop (mN j) = rest at *
                have hlen : As.length = mN j := by rw [← hAs, List.length_reverse, List.length_take]; omega
                subst hsplit
                have key : ∃ i, ((ins = .invokevirtual i ∧ b = 3) ∨ (ins = .invokestatic i ∧ (b = 4 ∨ b = 5)) ∨ (ins = .invokespecial i ∧ (b = 6 ∨ b = 7))) ∧ MK.any (fun q => q.1 == mI k && q.2.1 == i && q.2.2.1 == b && q.2.2.2.1 == j) = true ∧ (mF j + 1 ≤ mF k ∧ 8 + (mL j + 11) + mO j ≤ mO k) ∧ len = 3 ∧ nx = pc + 3 := by
                  cases ins
                  case invokevirtual i =>
                    unfold cee at hcee
                    dsimp only at hcee
                    split at hcee
                    · cases hcee
                      unfold okI at hok
                      dsimp only at hok
                      simp only [Bool.and_eq_true, beq_iff_eq, decide_eq_true_eq] at hok
                      obtain ⟨⟨⟨⟨rfl, rfl⟩, rfl⟩, hm⟩, hR⟩ := hok
                      exact ⟨i, Or.inl ⟨rfl, rfl⟩, hm, hR, rfl, rfl⟩
                    · cases hcee
                  case invokestatic i =>
                    unfold cee at hcee
                    dsimp only at hcee
                    split at hcee
                    · rename_i hb3
                      cases hcee
                      unfold okI at hok
                      dsimp only at hok
                      simp only [Bool.and_eq_true, beq_iff_eq] at hok
                      obtain ⟨⟨⟨rfl, rfl⟩, hm⟩, hR⟩ := hok
                      rw [if_neg (by omega), if_neg (by omega)] at hR
                      simp only [Bool.and_eq_true, Bool.or_eq_true, beq_iff_eq, decide_eq_true_eq] at hR
                      exact ⟨i, Or.inr (Or.inl ⟨rfl, hR.1⟩), hm, hR.2, rfl, rfl⟩
                    · cases hcee
                  case invokespecial i =>
                    unfold cee at hcee
                    dsimp only at hcee
                    split at hcee
                    · rename_i hb3
                      cases hcee
                      unfold okI at hok
                      dsimp only at hok
                      simp only [Bool.and_eq_true, beq_iff_eq] at hok
                      obtain ⟨⟨⟨rfl, rfl⟩, hm⟩, hR⟩ := hok
                      rw [if_neg (by omega)] at hR
                      simp only [Bool.and_eq_true, Bool.or_eq_true, beq_iff_eq, decide_eq_true_eq] at hR
                      exact ⟨i, Or.inr (Or.inr ⟨rfl, hR.1⟩), hm, hR.2, rfl, rfl⟩
                    · cases hcee
                  all_goals (have h9 : (none : Option Nat) = some j := hcee; cases h9)
                obtain ⟨i, hb, hm, hR, rfl, rfl⟩ := key
                exact call_snd IH hy0 hd hb hm hR hlen q2 q3 q4 q5 hex (cn_of IH hh hX hA hfree hQ)
            · cases hh
/-- a method's contract, out of its run -/
theorem met_run {f j : Nat} {As : List PV} {S : List Shp} {μ : Mu} {r : Option PV} {M' : Mem} (hj : j < 164) (h : exec f j 0 (entL j As) [] (S, μ, mC j, mS j) = some (r, M')) (hArg : argOk j As S = true) (hOk : ∀ v ∈ As, okV S.length v) (l : Launch) (D : va_G) (ad : Nat → Nat) (cA : Nat → ClassId) (tys : List (ClassId × FieldType)) (sz : Nat) :
    Met l (mY j) (wsK j) (rmK j) (PcM D S μ ad cA tys sz As) (QcM D S μ ad cA sz r M') (mC j) (mS j) (va_A (mkW S μ ad cA) sz) := met_of (snd_all f) hj h hArg hOk l D ad cA tys sz
