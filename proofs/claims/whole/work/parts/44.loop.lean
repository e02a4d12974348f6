/-! the law: its loop, its start -/
theorem lw_c1 : lwAt 58 (.classLink R_law 7 (nmC 11)) = true ∧ lwAt 727 (.classLink R_law 10 (nmC 12)) = true ∧ lwAt 60 (.methodLink R_law 9 (mY 87)) = true ∧ lwAt 729 (.methodLink R_law 12 (mY 116)) = true := by decide +kernel
theorem lw_c2 : (mZ 87 = 1 ∧ mZ 116 = 1 ∧ mN 87 = 1 ∧ mN 116 = 1 ∧ clN 11 = 12 ∧ clN 12 = 27) ∧ (mC 87 = 46 ∧ mS 87 = 1288 ∧ mC 116 = 17 ∧ mS 116 = 762) ∧ (mF 87 + 1 ≤ room_1.frames ∧ 8 + (mL 87 + 11) + mO 87 ≤ room_1.locals) ∧ (mF 116 + 1 ≤ room_1.frames ∧ 8 + (mL 116 + 11) + mO 116 ≤ room_1.locals) := by decide +kernel
theorem xa_f : ∃ z : Nat × Nat, exec 300 87 0 (entL 87 [vR 0]) [] (SA, m0, mC 87, mS 87) = some (none, (SH.take 47, mA, z)) := by
  have h := xa_e
  unfold XA at h
  exact h
theorem xb_f : ∃ z : Nat × Nat, exec 300 116 0 (entL 116 [vR 47]) [] (SBm, m1, mC 116, mS 116) = some (none, (SH, mB0, z)) := by
  have h := xb_e
  unfold XB at h
  exact h
theorem sh_47 : (SH.take 47).length = 47 := by decide +kernel
theorem sb_48 : SBm.length = 48 := by decide +kernel
theorem ar_a : argOk 87 [vR 0] SA = true := by decide +kernel
theorem ar_b : argOk 116 [vR 47] SBm = true := by decide +kernel
theorem tg_at : ∀ j : Fin 22, (#[104, 127, 140, 153, 186, 229, 252, 275, 298, 311, 354, 387, 420, 463, 496, 529, 562, 615, 628, 641, 664, 687] : Array Int)[((j.val : Int) - 0).toNat]? = some ([104, 127, 140, 153, 186, 229, 252, 275, 298, 311, 354, 387, 420, 463, 496, 529, 562, 615, 628, 641, 664, 687].getD j.val 0) := by decide +kernel
theorem law_loop {p : Program} {l : Launch} {e : Env} {s : State} {m : MethodId} {below : List Frame} {meth : Method} {c : Code} {b L : Nat} {xs : Nat → Int32} {D : va_G} (C0 : lw_At p s m meth c b L xs) (hL : L ≤ 2560) : ∀ (n i : Nat), i ≤ L → L + 1 ≤ i + n → ∀ (μ : Mu) (ad : Nat → Nat) (cA : Nat → ClassId) (tys : List (ClassId × FieldType)) (H : Heap) (locs : List Loc) (ls : Array Slot), Inv μ → Lst s D b (nI i) ls μ ad cA tys H locs → W p l e room_1 s m #[Value.ref b] below meth c H locs 65 2089 (lw_Z below #[Value.ref b] s) (F0 m 18 ls []) := by
  obtain ⟨hx, hb, hr, hml, hown, hts, hX, hbl, hlocks, hgv⟩ := id C0
  intro n
  induction n with
  | zero => intro i h1 h2; exact absurd h2 (by omega)
  | succ n ih =>
    intro i h1 h2 μ ad cA tys H locs ls hI h
    have hS := h.2.1
    have hl := h.2.2
    refine lv_iload_n hx hb dl18 rfl (lv_at hl 3 rfl) ?_
    refine lv_aload_n hx hb dl19 rfl (lv_at hl 0 rfl) ?_
    refine va_slen hx hb hX hbl (Nat.not_le.mpr hbl) hS dl20 ?_
    refine lv_iconst (v := 5) hx hb dl21 (by decide) ?_
    refine lv_isub hx hb dl22 ?_
    refine lv_icmp_gt (tgt := 748) hx hb dl23 (by decide) (fun c1 => ?_) (fun c1 => ?_)
    · refine lv_iconst (v := 1) hx hb dl748 (by decide) ?_
      refine va_forget (fun q hq => hS.2.2 q hq) ?_
      exact lw_ret hx hb hr hlocks dl749
    · have hlt : i + 5 ≤ L := by
        have e1 : Int32.ofNat L - 5 = oI ((L : Int) - 5) := by
          rw [oI_sub, oI_nat]; rfl
        have e2 : nI i = oI (i : Int) := (oI_nat i).symm
        rw [e1, e2, oI_lt ⟨by omega, by omega⟩ ⟨by omega, by omega⟩] at c1
        omega
      have K : ∀ (μ' : Mu) (ad' : Nat → Nat) (cA' : Nat → ClassId) (tys' : List (ClassId × FieldType)) (H' : Heap) (locs' : List Loc), Inv μ' → Lst s D b (nI i) ls μ' ad' cA' tys' H' locs' → W p l e room_1 s m #[Value.ref b] below meth c H' locs' 65 2089 (lw_Z below #[Value.ref b] s) (F0 m 742 ls []) := by
        intro μ' ad' cA' tys' H' locs' hI' h'
        obtain ⟨hWo', hS', hl'⟩ := h'
        refine lv_iinc (v := nI (i + 5)) (lv' := [(3, .int (nI (i + 5))), (0, .ref b), (1, .ref (ad' 0)), (2, .ref (ad' 47))]) hx hb dl742 hl' (k := 3) rfl (by rw [show Int32.ofInt 5 = nI 5 by decide, nI_add]) (by decide) rfl (fun ls2 hl2 => ?_)
        refine lv_goto (tgt := 18) hx hb dl745 (by decide) ?_
        exact ih (i + 5) (by omega) (by omega) μ' ad' cA' tys' H' locs' ls2 hI' ⟨hWo', hS', lv_sub hl2 [1, 2, 3, 0] rfl⟩
      refine lv_aload_n hx hb dl26 rfl (lv_at hl 0 rfl) ?_
      refine lv_iload_n hx hb dl27 rfl (lv_at hl 3 rfl) ?_
      refine va_sld hx hb hX hbl (Nat.not_le.mpr hbl) hS (vp_in_nI (show i < L by omega) (by omega)) dl28 ?_
      refine lv_bipush (v := 31) hx hb dl29 (by decide) ?_
      refine lv_iand hx hb dl31 ?_
      obtain ⟨j, hj, ej⟩ := pk_andE (xs (nI i).toNatClampNeg) (m := 31) 5 (by decide)
      rw [ej]
      have hj5 : j < 32 := hj
      have ti : (nI j).toInt = (j : Int) := nI_toInt (by omega)
      by_cases hj2 : j < 22
      · have ho := tg_at ⟨j, hj2⟩
        dsimp only at ho
        rw [← ti] at ho
        rcases (show j = 0 ∨ j = 1 ∨ j = 2 ∨ j = 3 ∨ j = 4 ∨ j = 5 ∨ j = 6 ∨ j = 7 ∨ j = 8 ∨ j = 9 ∨ j = 10 ∨ j = 11 ∨ j = 12 ∨ j = 13 ∨ j = 14 ∨ j = 15 ∨ j = 16 ∨ j = 17 ∨ j = 18 ∨ j = 19 ∨ j = 20 ∨ j = 21 by omega) with rfl | rfl | rfl | rfl | rfl | rfl | rfl | rfl | rfl | rfl | rfl | rfl | rfl | rfl | rfl | rfl | rfl | rfl | rfl | rfl | rfl | rfl
        · exact lv_tableIn (off := 104) (tgt := 136) hx hb dl32 (by rw [ti]; omega) (by rw [ti]; omega) ho (by decide) (lc_type C0 hL hlt hI h K)
        · exact lv_tableIn (off := 127) (tgt := 159) hx hb dl32 (by rw [ti]; omega) (by rw [ti]; omega) ho (by decide) (lc_clear C0 hL hlt hI h K)
        · exact lv_tableIn (off := 140) (tgt := 172) hx hb dl32 (by rw [ti]; omega) (by rw [ti]; omega) ho (by decide) (lc_history C0 hL hlt hI h K)
        · exact lv_tableIn (off := 153) (tgt := 185) hx hb dl32 (by rw [ti]; omega) (by rw [ti]; omega) ho (by decide) (lc_revision C0 hL hlt hI h K)
        · exact lv_tableIn (off := 186) (tgt := 218) hx hb dl32 (by rw [ti]; omega) (by rw [ti]; omega) ho (by decide) (lc_line C0 hL hlt hI h K)
        · exact lv_tableIn (off := 229) (tgt := 261) hx hb dl32 (by rw [ti]; omega) (by rw [ti]; omega) ho (by decide) (lc_blocks C0 hL hlt hI h K)
        · exact lv_tableIn (off := 252) (tgt := 284) hx hb dl32 (by rw [ti]; omega) (by rw [ti]; omega) ho (by decide) (lc_passes C0 hL hlt hI h K)
        · exact lv_tableIn (off := 275) (tgt := 307) hx hb dl32 (by rw [ti]; omega) (by rw [ti]; omega) ho (by decide) (lc_rules C0 hL hlt hI h K)
        · exact lv_tableIn (off := 298) (tgt := 330) hx hb dl32 (by rw [ti]; omega) (by rw [ti]; omega) ho (by decide) (lc_undo C0 hL hlt hI h K)
        · exact lv_tableIn (off := 311) (tgt := 343) hx hb dl32 (by rw [ti]; omega) (by rw [ti]; omega) ho (by decide) (lc_gives C0 hL hlt hI h K)
        · exact lv_tableIn (off := 354) (tgt := 386) hx hb dl32 (by rw [ti]; omega) (by rw [ti]; omega) ho (by decide) (lc_begun C0 hL hlt hI h K)
        · exact lv_tableIn (off := 387) (tgt := 419) hx hb dl32 (by rw [ti]; omega) (by rw [ti]; omega) ho (by decide) (lc_age C0 hL hlt hI h K)
        · exact lv_tableIn (off := 420) (tgt := 452) hx hb dl32 (by rw [ti]; omega) (by rw [ti]; omega) ho (by decide) (lc_like C0 hL hlt hI h K)
        · exact lv_tableIn (off := 463) (tgt := 495) hx hb dl32 (by rw [ti]; omega) (by rw [ti]; omega) ho (by decide) (lc_carried C0 hL hlt hI h K)
        · exact lv_tableIn (off := 496) (tgt := 528) hx hb dl32 (by rw [ti]; omega) (by rw [ti]; omega) ho (by decide) (lc_kept C0 hL hlt hI h K)
        · exact lv_tableIn (off := 529) (tgt := 561) hx hb dl32 (by rw [ti]; omega) (by rw [ti]; omega) ho (by decide) (lc_common C0 hL hlt hI h K)
        · exact lv_tableIn (off := 562) (tgt := 594) hx hb dl32 (by rw [ti]; omega) (by rw [ti]; omega) ho (by decide) (lc_sees C0 hL hlt hI h K)
        · exact lv_tableIn (off := 615) (tgt := 647) hx hb dl32 (by rw [ti]; omega) (by rw [ti]; omega) ho (by decide) (lc_forget C0 hL hlt hI h K)
        · exact lv_tableIn (off := 628) (tgt := 660) hx hb dl32 (by rw [ti]; omega) (by rw [ti]; omega) ho (by decide) (lc_unseen C0 hL hlt hI h K)
        · exact lv_tableIn (off := 641) (tgt := 673) hx hb dl32 (by rw [ti]; omega) (by rw [ti]; omega) ho (by decide) (lc_keep C0 hL hlt hI h K)
        · exact lv_tableIn (off := 664) (tgt := 696) hx hb dl32 (by rw [ti]; omega) (by rw [ti]; omega) ho (by decide) (lc_back C0 hL hlt hI h K)
        · exact lv_tableIn (off := 687) (tgt := 719) hx hb dl32 (by rw [ti]; omega) (by rw [ti]; omega) ho (by decide) (lc_count C0 hL hlt hI h K)
      · exact lv_tableOut (tgt := 742) hx hb dl32 (Or.inr (by rw [ti]; omega)) (by decide) (K μ ad cA tys H locs hI h)
theorem known_all {s : State} {b : Nat} (hts : ∀ w ∈ lw_tbl, w.before #[Value.ref b] s = true) : ∃ D : va_G, va_K D cls [] s := by
  have h : ∀ ci : Nat, ∃ z : ClassId × (Nat → Nat), ci < 13 → u_Kn s (nmC ci) (clT ci) (clN ci) z.1 z.2 := by
    intro ci
    by_cases hc : ci < 13
    · obtain ⟨c0, i0, hk⟩ := u_known (C := nmC ci) (T := clT ci) (N := clN ci) (n := clN ci) hts (fun w hw => tw_lw (cls_in hc w hw)) (hts _ (in_all hc))
      exact ⟨(c0, i0), fun _ => hk⟩
    · exact ⟨(0, fun _ => 0), fun z => absurd z hc⟩
  obtain ⟨F, hF⟩ := Classical.skolem.mp h
  refine ⟨(fun ci => (F ci).1, fun ci => (F ci).2), fun ci q hq => ?_, fun k q hq => by simp at hq⟩
  have hc : ci < 13 := (List.getElem?_eq_some_iff.mp hq).1
  rw [cls_at hc] at hq
  cases hq
  exact hF ci hc
theorem wo_0 {D : va_G} {s : State} (hK : va_K D cls [] s) : Wo D [] (fun _ _ => 0) (fun _ => 0) (fun _ => 0) [] (AL s) s s.heap :=
  ⟨hK, fun k q h => by simp [mkW] at h, ⟨fun i j p q h => by simp [mkW] at h, fun k q h => by simp [mkW] at h⟩, fun p b n h => by simp at h, fun _ _ => show iR 0 from ⟨by decide, by decide⟩, fun p sh h => by simp at h⟩
set_option maxHeartbeats 4000000 in
/-- the law, from its entry -/
theorem whole_start {p : Program} {e : Env} {s : State} {m : MethodId} {below : List Frame} {meth : Method} {c : Code} (l : Launch) (hflags : l.flags = flags0) {b L : Nat} {xs : Nat → Int32} (hL : L ≤ 2560) (C0 : lw_At p s m meth c b L xs) : W p l e room_1 s m #[Value.ref b] below meth c s.heap [] 0 0 (lw_Z below #[Value.ref b] s) (entryFrame m ([Value.ref b] : List Value).toArray 4) := by
  obtain ⟨hx, hb, hr, hml, hown, hts, hX, hbl, hlocks, hgv⟩ := id C0
  obtain ⟨D, hK⟩ := known_all hts
  obtain ⟨⟨z87, z116, n87, n116, k11, k12⟩, ⟨c87, s87, c116, s116⟩, r87, r116⟩ := lw_c2
  obtain ⟨t1, t2, t3, t4⟩ := lw_c1
  have hl := lv_entry ([.ref b]) (n := 4) (Nat.le_of_ble_eq_true rfl)
  rw [lg_entry_eq]
  generalize (lg_sl ([.ref b]) ++ List.replicate (4 - (lg_sl ([.ref b])).length) Slot.unset).toArray = ls at hl ⊢
  have hl : lv_has ls 4 [(0, .ref b)] := hl
  refine law_new (i := 7) (ci := 11) C0 (wo_0 hK) va_S.rf (by decide) (lwAt_mem t1) dl0 (by rw [k11]; exact ⟨by decide, by decide⟩) (fun ad1 cA1 H1 hag1 hWo1 hS1 => ?_)
  have hWo1 : Wo D SA m0 ad1 cA1 [] (AL s) s H1 := hWo1
  show W p l e room_1 s m #[Value.ref b] below meth c H1 [] (0 + 1) (0 + clN 11) (lw_Z below #[Value.ref b] s) (F0 m (0 + 3) ls [.ref (ad1 0)])
  refine lv_dup hx hb dl3 rfl ?_
  refine law_ctor (i := 9) (j := 87) C0 hWo1 hS1 (by decide) z87 (lwAt_mem t3) r87 n87 xa_f ar_a (by decide) dl4 hl.1 (by simp [Value.category]) (by rw [c87, s87, k11]; exact ⟨by decide, by decide⟩) (fun ad2 cA2 tys2 H2 locs2 hag2 hWo2 hS2 => ?_)
  rw [← hag2 0 (by decide)]
  refine lv_astore_n (lv' := [(1, .ref (ad2 0)), (0, .ref b)]) hx hb dl7 rfl hl (by decide) rfl (fun ls hl => ?_)
  refine law_new (i := 10) (ci := 12) C0 hWo2 hS2 (by decide) (lwAt_mem t2) dl8 (by rw [c87, s87, k11, k12]; exact ⟨by decide, by decide⟩) (fun ad3 cA3 H3 hag3 hWo3 hS3 => ?_)
  rw [sh_47] at hWo3 hag3 ⊢
  have hWo3 : Wo D SBm m1 ad3 cA3 tys2 (AL s) s H3 := hWo3
  refine lv_dup hx hb dl11 rfl ?_
  refine law_ctor (i := 12) (j := 116) C0 hWo3 hS3 (by decide) z116 (lwAt_mem t4) r116 n116 xb_f ar_b (by rw [sb_48]; decide) dl12 hl.1 (by simp [Value.category]) (by rw [c87, s87, k11, k12, c116, s116]; exact ⟨by decide, by decide⟩) (fun ad4 cA4 tys4 H4 locs4 hag4 hWo4 hS4 => ?_)
  rw [sb_48] at hag4
  rw [← hag4 47 (by decide)]
  refine lv_astore_n (lv' := [(2, .ref (ad4 47)), (1, .ref (ad2 0)), (0, .ref b)]) hx hb dl15 rfl hl (by decide) rfl (fun ls hl => ?_)
  refine lv_iconst (v := nI 0) hx hb dl16 (by decide) ?_
  refine lv_istore_n (lv' := [(3, .int (nI 0)), (2, .ref (ad4 47)), (1, .ref (ad2 0)), (0, .ref b)]) hx hb dl17 rfl hl (by decide) rfl (fun ls hl => ?_)
  refine W.widen (k := 65) (n := 2089) (by rw [c87, c116]; decide) (by rw [s87, s116, k11, k12]; decide) ?_
  rw [← hag3 0 (by decide), ← hag4 0 (by decide)] at hl
  exact law_loop C0 hL (L + 1) 0 (Nat.zero_le L) (by omega) mB0 ad4 cA4 tys4 H4 locs4 ls inv_0 ⟨hWo4, hS4, lv_sub hl [3, 2, 1, 0] rfl⟩
