/-! both programs side by side: each call answers alike, and both hold the same again -/
def Inv (μ : Mu) : Prop := ∃ (G : Hi) (T : Tx) (s : Se) (U : Un) (im : Int → Option Se) (N : Sn), RC G T s U im N μ ∧ RM G T s U im N μ
def Tw (k : Nat) (ls : Lo) : Po := fun rr μ1 => ∃ r, rr = some (vI r) ∧ Wp k 0 ls [] μ1 (fun r2 μ2 => r2 = some (vI r) ∧ Inv μ2)
theorem inv_q {G : Hi} {T : Tx} {s : Se} {U : Un} {im : Int → Option Se} {N : Sn} {μ μ2 : Mu} (hc : RC G T s U im N μ) (hf : ∀ q, q < 47 → μ2 q = μ q) (hm : RM G T s U im N μ2) : Inv μ2 := ⟨G, T, s, U, im, N, hc.fr (fun q a _ _ _ _ => hf q a), hm⟩
theorem rm_c {G : Hi} {T : Tx} {s : Se} {U : Un} {im : Int → Option Se} {N : Sn} {μ μ2 : Mu} (hm : RM G T s U im N μ) (hf : ∀ q, 47 ≤ q → μ2 q = μ q) : RM G T s U im N μ2 := hm.fr (fun q a _ _ _ _ _ _ => hf q a)
theorem tw_type {μ : Mu} (h : Inv μ) (a1 : Int) : Wp 88 0 (entL 88 [vR 0, vI a1]) [] μ (Tw 122 (entL 122 [vR 47, vI a1])) := by
  obtain ⟨G, T, s, U, im, N, hrc, hrm⟩ := h
  show Wp 88 0 [some (vR 0), some (vI a1)] [] μ (Tw 122 [some (vR 47), some (vI a1)])
  refine c88 hrc (fun n1 => ⟨_, rfl, d122 hrm (fun _ => ⟨rfl, G, T, s, U, im, N, hrc, hrm⟩) (fun y => absurd y n1) (fun y => absurd y n1)⟩) (fun y1 y2 => ⟨_, rfl, d122 hrm (fun n => absurd y1 n) (fun _ _ => ⟨rfl, G, T, s, U, im, N, hrc, hrm⟩) (fun _ z => absurd z (by omega))⟩) (fun y1 y2 μ1 hc hf => ⟨_, rfl, d122 (rm_c hrm hf) (fun n => absurd y1 n) (fun _ z => absurd z (by omega)) (fun _ _ μ2 hm hf2 => ⟨rfl, inv_q hc hf2 hm⟩)⟩)
theorem tw_clear {μ : Mu} (h : Inv μ) : Wp 89 0 (entL 89 [vR 0]) [] μ (Tw 123 (entL 123 [vR 47])) := by
  obtain ⟨G, T, s, U, im, N, hrc, hrm⟩ := h
  show Wp 89 0 [some (vR 0), none] [] μ (Tw 123 [some (vR 47), none])
  refine c89 hrc (fun μ1 hc hf => ⟨_, rfl, d123 (rm_c hrm hf) (fun μ2 hm hf2 => ⟨rfl, inv_q hc hf2 hm⟩)⟩)
theorem tw_history {μ : Mu} (h : Inv μ) : Wp 90 0 (entL 90 [vR 0]) [] μ (Tw 128 (entL 128 [vR 47])) := by
  obtain ⟨G, T, s, U, im, N, hrc, hrm⟩ := h
  show Wp 90 0 [some (vR 0), none, none] [] μ (Tw 128 [some (vR 47), none])
  refine c90 hrc (fun f e9 μ1 hc hf => ⟨_, rfl, d128 (rm_c hrm hf) (fun f2 e8 μ2 hm hf2 => by rw [e9] at e8; cases e8; exact ⟨rfl, inv_q hc hf2 hm⟩) (fun D e8 => by rw [e9] at e8; cases e8)⟩) (fun D e9 _ μ1 hc hf => ⟨_, rfl, d128 (rm_c hrm hf) (fun f2 e8 => by rw [e9] at e8; cases e8) (fun D2 e8 _ μ2 hm hf2 => by rw [e9] at e8; cases e8; exact ⟨rfl, inv_q hc hf2 hm⟩)⟩)
theorem tw_revision {μ : Mu} (h : Inv μ) (a1 a2 : Int) : Wp 91 0 (entL 91 [vR 0, vI a1, vI a2]) [] μ (Tw 140 (entL 140 [vR 47, vI a1, vI a2])) := by
  obtain ⟨G, T, s, U, im, N, hrc, hrm⟩ := h
  show Wp 91 0 [some (vR 0), some (vI a1), some (vI a2)] [] μ (Tw 140 [some (vR 47), some (vI a1), some (vI a2)])
  refine c91 hrc ⟨_, rfl, d140 hrm (fun μ2 hm hf => ⟨rfl, inv_q hrc hf hm⟩)⟩
theorem tw_line {μ : Mu} (h : Inv μ) (a1 a2 a3 : Int) : Wp 92 0 (entL 92 [vR 0, vI a1, vI a2, vI a3]) [] μ (Tw 141 (entL 141 [vR 47, vI a1, vI a2, vI a3])) := by
  obtain ⟨G, T, s, U, im, N, hrc, hrm⟩ := h
  show Wp 92 0 [some (vR 0), some (vI a1), some (vI a2), some (vI a3)] [] μ (Tw 141 [some (vR 47), some (vI a1), some (vI a2), some (vI a3)])
  refine c92 hrc ⟨_, rfl, d141 hrm (fun μ2 hm hf => ⟨rfl, inv_q hrc hf hm⟩)⟩
theorem tw_blocks {μ : Mu} (h : Inv μ) (a1 : Int) : Wp 93 0 (entL 93 [vR 0, vI a1]) [] μ (Tw 143 (entL 143 [vR 47, vI a1])) := by
  obtain ⟨G, T, s, U, im, N, hrc, hrm⟩ := h
  show Wp 93 0 [some (vR 0), some (vI a1), none] [] μ (Tw 143 [some (vR 47), some (vI a1), none])
  refine c93 hrc (fun n1 => ⟨_, rfl, d143 hrm (fun _ => ⟨rfl, G, T, s, U, im, N, hrc, hrm⟩) (fun y => absurd y n1) (fun y => absurd y n1)⟩) (fun y1 y2 => ⟨_, rfl, d143 hrm (fun n => absurd y1 n) (fun _ _ => ⟨rfl, G, T, s, U, im, N, hrc, hrm⟩) (fun _ z => absurd z (by omega))⟩) (fun y1 y2 μ1 hc hf => ⟨_, rfl, d143 (rm_c hrm hf) (fun n => absurd y1 n) (fun _ z => absurd z (by omega)) (fun _ _ μ2 hm hf2 => ⟨rfl, inv_q hc hf2 hm⟩)⟩)
theorem tw_passes {μ : Mu} (h : Inv μ) (a1 : Int) : Wp 94 0 (entL 94 [vR 0, vI a1]) [] μ (Tw 144 (entL 144 [vR 47, vI a1])) := by
  obtain ⟨G, T, s, U, im, N, hrc, hrm⟩ := h
  show Wp 94 0 [some (vR 0), some (vI a1)] [] μ (Tw 144 [some (vR 47), some (vI a1)])
  refine c94 hrc (fun n1 => ⟨_, rfl, d144 hrm (fun _ => ⟨rfl, G, T, s, U, im, N, hrc, hrm⟩) (fun y => absurd y n1)⟩) (fun y1 μ1 hc hf => ⟨_, rfl, d144 (rm_c hrm hf) (fun n => absurd y1 n) (fun _ μ2 hm hf2 => ⟨rfl, inv_q hc hf2 hm⟩)⟩)
theorem tw_rules {μ : Mu} (h : Inv μ) (a1 : Int) : Wp 95 0 (entL 95 [vR 0, vI a1]) [] μ (Tw 145 (entL 145 [vR 47, vI a1])) := by
  obtain ⟨G, T, s, U, im, N, hrc, hrm⟩ := h
  show Wp 95 0 [some (vR 0), some (vI a1)] [] μ (Tw 145 [some (vR 47), some (vI a1)])
  refine c95 hrc (fun n1 => ⟨_, rfl, d145 hrm (fun _ => ⟨rfl, G, T, s, U, im, N, hrc, hrm⟩) (fun y => absurd y n1)⟩) (fun y1 μ1 hc hf => ⟨_, rfl, d145 (rm_c hrm hf) (fun n => absurd y1 n) (fun _ μ2 hm hf2 => ⟨rfl, inv_q hc hf2 hm⟩)⟩)
theorem tw_undo {μ : Mu} (h : Inv μ) : Wp 96 0 (entL 96 [vR 0]) [] μ (Tw 146 (entL 146 [vR 47])) := by
  obtain ⟨G, T, s, U, im, N, hrc, hrm⟩ := h
  show Wp 96 0 [some (vR 0)] [] μ (Tw 146 [some (vR 47), none])
  refine c96 hrc (fun n1 => ⟨_, rfl, d146 hrm (fun _ => ⟨rfl, G, T, s, U, im, N, hrc, hrm⟩) (fun y => absurd y (by omega))⟩) (fun y1 μ1 hc hf => ⟨_, rfl, d146 (rm_c hrm hf) (fun n => absurd n (by omega)) (fun _ μ2 hm hf2 => ⟨rfl, inv_q hc hf2 hm⟩)⟩)
theorem tw_gives {μ : Mu} (h : Inv μ) (a1 a2 a3 : Int) : Wp 97 0 (entL 97 [vR 0, vI a1, vI a2, vI a3]) [] μ (Tw 147 (entL 147 [vR 47, vI a1, vI a2, vI a3])) := by
  obtain ⟨G, T, s, U, im, N, hrc, hrm⟩ := h
  show Wp 97 0 [some (vR 0), some (vI a1), some (vI a2), some (vI a3)] [] μ (Tw 147 [some (vR 47), some (vI a1), some (vI a2), some (vI a3)])
  refine c97 hrc ⟨_, rfl, d147 hrm (fun μ2 hm hf => ⟨rfl, inv_q hrc hf hm⟩)⟩
theorem tw_begun {μ : Mu} (h : Inv μ) (a1 a2 : Int) : Wp 98 0 (entL 98 [vR 0, vI a1, vI a2]) [] μ (Tw 148 (entL 148 [vR 47, vI a1, vI a2])) := by
  obtain ⟨G, T, s, U, im, N, hrc, hrm⟩ := h
  show Wp 98 0 [some (vR 0), some (vI a1), some (vI a2), none, none] [] μ (Tw 148 [some (vR 47), some (vI a1), some (vI a2), none, none])
  refine c98 hrc ⟨_, rfl, d148 hrm (fun μ2 hm hf => ⟨rfl, inv_q hrc hf hm⟩)⟩
theorem tw_age {μ : Mu} (h : Inv μ) (a1 a2 : Int) : Wp 99 0 (entL 99 [vR 0, vI a1, vI a2]) [] μ (Tw 149 (entL 149 [vR 47, vI a1, vI a2])) := by
  obtain ⟨G, T, s, U, im, N, hrc, hrm⟩ := h
  show Wp 99 0 [some (vR 0), some (vI a1), some (vI a2), none] [] μ (Tw 149 [some (vR 47), some (vI a1), some (vI a2), none, none, none, none, none])
  refine c99 hrc ⟨_, rfl, d149 hrm (fun μ2 hm hf => ⟨rfl, inv_q hrc hf hm⟩)⟩
theorem tw_like {μ : Mu} (h : Inv μ) (a1 a2 a3 : Int) : Wp 100 0 (entL 100 [vR 0, vI a1, vI a2, vI a3]) [] μ (Tw 151 (entL 151 [vR 47, vI a1, vI a2, vI a3])) := by
  obtain ⟨G, T, s, U, im, N, hrc, hrm⟩ := h
  show Wp 100 0 [some (vR 0), some (vI a1), some (vI a2), some (vI a3)] [] μ (Tw 151 [some (vR 47), some (vI a1), some (vI a2), some (vI a3)])
  refine c100 hrc ⟨_, rfl, d151 hrm (fun μ2 hm hf => ⟨rfl, inv_q hrc hf hm⟩)⟩
theorem tw_carried {μ : Mu} (h : Inv μ) (a1 a2 : Int) : Wp 101 0 (entL 101 [vR 0, vI a1, vI a2]) [] μ (Tw 152 (entL 152 [vR 47, vI a1, vI a2])) := by
  obtain ⟨G, T, s, U, im, N, hrc, hrm⟩ := h
  show Wp 101 0 [some (vR 0), some (vI a1), some (vI a2), none, none] [] μ (Tw 152 [some (vR 47), some (vI a1), some (vI a2), none, none])
  refine c101 hrc ⟨_, rfl, d152 hrm (fun μ2 hm hf => ⟨rfl, inv_q hrc hf hm⟩)⟩
theorem tw_kept {μ : Mu} (h : Inv μ) (a1 a2 : Int) : Wp 102 0 (entL 102 [vR 0, vI a1, vI a2]) [] μ (Tw 153 (entL 153 [vR 47, vI a1, vI a2])) := by
  obtain ⟨G, T, s, U, im, N, hrc, hrm⟩ := h
  show Wp 102 0 [some (vR 0), some (vI a1), some (vI a2), none, none] [] μ (Tw 153 [some (vR 47), some (vI a1), some (vI a2), none, none, none])
  refine c102 hrc ⟨_, rfl, d153 hrm (fun μ2 hm hf => ⟨rfl, inv_q hrc hf hm⟩)⟩
theorem tw_common {μ : Mu} (h : Inv μ) (a1 a2 : Int) : Wp 103 0 (entL 103 [vR 0, vI a1, vI a2]) [] μ (Tw 154 (entL 154 [vR 47, vI a1, vI a2])) := by
  obtain ⟨G, T, s, U, im, N, hrc, hrm⟩ := h
  show Wp 103 0 [some (vR 0), some (vI a1), some (vI a2)] [] μ (Tw 154 [some (vR 47), some (vI a1), some (vI a2), none])
  refine c103 hrc ⟨_, rfl, d154 hrm (fun μ2 hm hf => ⟨rfl, inv_q hrc hf hm⟩)⟩
theorem tw_sees {μ : Mu} (h : Inv μ) (a1 a2 a3 a4 : Int) : Wp 104 0 (entL 104 [vR 0, vI a1, vI a2, vI a3, vI a4]) [] μ (Tw 155 (entL 155 [vR 47, vI a1, vI a2, vI a3, vI a4])) := by
  obtain ⟨G, T, s, U, im, N, hrc, hrm⟩ := h
  show Wp 104 0 [some (vR 0), some (vI a1), some (vI a2), some (vI a3), some (vI a4)] [] μ (Tw 155 [some (vR 47), some (vI a1), some (vI a2), some (vI a3), some (vI a4)])
  refine c104 hrc (fun n1 => ⟨_, rfl, d155 hrm (fun _ => ⟨rfl, G, T, s, U, im, N, hrc, hrm⟩) (fun y => absurd y n1) (fun y => absurd y n1)⟩) (fun y1 y2 => ⟨_, rfl, d155 hrm (fun n => absurd y1 n) (fun _ _ => ⟨rfl, G, T, s, U, im, N, hrc, hrm⟩) (fun _ z => absurd z (by omega))⟩) (fun y1 y2 μ1 hc hf => ⟨_, rfl, d155 (rm_c hrm hf) (fun n => absurd y1 n) (fun _ z => absurd z (by omega)) (fun _ _ μ2 hm hf2 => ⟨rfl, inv_q hc hf2 hm⟩)⟩)
theorem tw_forget {μ : Mu} (h : Inv μ) : Wp 105 0 (entL 105 [vR 0]) [] μ (Tw 156 (entL 156 [vR 47])) := by
  obtain ⟨G, T, s, U, im, N, hrc, hrm⟩ := h
  show Wp 105 0 [some (vR 0), none] [] μ (Tw 156 [some (vR 47), none])
  refine c105 hrc (fun μ1 hc hf => ⟨_, rfl, d156 (rm_c hrm hf) (fun μ2 hm hf2 => ⟨rfl, inv_q hc hf2 hm⟩)⟩)
theorem tw_unseen {μ : Mu} (h : Inv μ) : Wp 106 0 (entL 106 [vR 0]) [] μ (Tw 158 (entL 158 [vR 47])) := by
  obtain ⟨G, T, s, U, im, N, hrc, hrm⟩ := h
  show Wp 106 0 [some (vR 0), none, none] [] μ (Tw 158 [some (vR 47), none, none])
  refine c106 hrc (fun μ1 hc hf => ⟨_, rfl, d158 (rm_c hrm hf) (fun μ2 hm hf2 => ⟨rfl, inv_q hc hf2 hm⟩)⟩)
theorem tw_keep {μ : Mu} (h : Inv μ) (a1 : Int) : Wp 107 0 (entL 107 [vR 0, vI a1]) [] μ (Tw 159 (entL 159 [vR 47, vI a1])) := by
  obtain ⟨G, T, s, U, im, N, hrc, hrm⟩ := h
  show Wp 107 0 [some (vR 0), some (vI a1)] [] μ (Tw 159 [some (vR 47), some (vI a1), none])
  refine c107 hrc (fun n1 => ⟨_, rfl, d159 hrm (fun _ => ⟨rfl, G, T, s, U, im, N, hrc, hrm⟩) (fun y => absurd y n1)⟩) (fun y1 μ1 hc hf => ⟨_, rfl, d159 (rm_c hrm hf) (fun n => absurd y1 n) (fun _ μ2 hm hf2 => ⟨rfl, inv_q hc hf2 hm⟩)⟩)
theorem tw_back {μ : Mu} (h : Inv μ) (a1 : Int) : Wp 108 0 (entL 108 [vR 0, vI a1]) [] μ (Tw 160 (entL 160 [vR 47, vI a1])) := by
  obtain ⟨G, T, s, U, im, N, hrc, hrm⟩ := h
  show Wp 108 0 [some (vR 0), some (vI a1)] [] μ (Tw 160 [some (vR 47), some (vI a1), none])
  refine c108 hrc (fun n1 => ⟨_, rfl, d160 hrm (fun _ => ⟨rfl, G, T, s, U, im, N, hrc, hrm⟩) (fun y => absurd y n1) (fun _ y => absurd y n1)⟩) (fun y1 y2 => ⟨_, rfl, d160 hrm (fun n => absurd y1 n) (fun _ _ => ⟨rfl, G, T, s, U, im, N, hrc, hrm⟩) (fun s8 _ e8 => by rw [y2] at e8; cases e8)⟩) (fun s9 y1 e9 μ1 hc hf => ⟨_, rfl, d160 (rm_c hrm hf) (fun n => absurd y1 n) (fun _ z => by rw [e9] at z; cases z) (fun s8 _ e8 μ2 hm hf2 => by rw [e9] at e8; cases e8; exact ⟨rfl, inv_q hc hf2 hm⟩)⟩)
theorem tw_count {μ : Mu} (h : Inv μ) (a1 : Int) : Wp 109 0 (entL 109 [vR 0, vI a1]) [] μ (Tw 163 (entL 163 [vR 47, vI a1])) := by
  obtain ⟨G, T, s, U, im, N, hrc, hrm⟩ := h
  show Wp 109 0 [some (vR 0), some (vI a1)] [] μ (Tw 163 [some (vR 47), some (vI a1)])
  refine c109 hrc ⟨_, rfl, d163 hrm (fun μ2 hm hf => ⟨rfl, inv_q hrc hf hm⟩)⟩
