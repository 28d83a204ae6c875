/-! heads that are turned by turns -/
def bh (C : Ci) (t : Nat) : Nat := if t % 2 = 0 then C 1 0 else abv (C 0 0) (C 1 0)
def tn (D : Ci) (h s : Nat) : Ci := if s = h then D else cu D 7 h s
def opO (mx : Nat) (g : Nat → Option Nat) : Nat → Option Nat
  | 0 => none
  | k + 1 => match g k with
    | none => opO mx g k
    | some v => match opO mx g k with
      | none => some v
      | some b => some (if mx % 2 = 0 then (if b < v then v else b) else (if v < b then v else b))
abbrev inv (D : Ci) (h s : Nat) : Prop := D 0 0 ≤ s ∨ (s ≠ h ∧ D 9 h = 2)
def vV (m : Nat) : Nat → Nat → Ci → Nat
  | 0, _, D => ded (tkN m D)
  | r + 1, t, D => (opO t (fun s => if inv D (bh D t) s then none else some (vV m r (t + 1) (tn D (bh D t) s))) 8).getD 0
theorem opO_n {mx : Nat} {g : Nat → Option Nat} {k : Nat} (h : g k = none) : opO mx g (k + 1) = opO mx g k := by
  show (match g k with | none => opO mx g k | some v => _) = _
  rw [h]
theorem opO_f {mx : Nat} {g : Nat → Option Nat} {k v : Nat} (h : g k = some v) (h2 : opO mx g k = none) : opO mx g (k + 1) = some v := by
  show (match g k with | none => opO mx g k | some v => _) = _
  rw [h]
  dsimp only
  rw [h2]
theorem opO_s {mx : Nat} {g : Nat → Option Nat} {k v b : Nat} (h : g k = some v) (h2 : opO mx g k = some b) : opO mx g (k + 1) = some (if mx % 2 = 0 then (if b < v then v else b) else (if v < b then v else b)) := by
  show (match g k with | none => opO mx g k | some v => _) = _
  rw [h]
  dsimp only
  rw [h2]
def bst (mx : Nat) (g : Nat → Option Nat) (k v : Nat) : Prop := (∃ s, s < k ∧ g s = some v) ∧ ∀ s w, s < k → g s = some w → (mx % 2 = 0 → w ≤ v) ∧ (mx % 2 ≠ 0 → v ≤ w)
theorem opO_sp {mx : Nat} {g : Nat → Option Nat} : ∀ k, (opO mx g k = none ∧ ∀ s, s < k → g s = none) ∨ ∃ v, opO mx g k = some v ∧ bst mx g k v
  | 0 => Or.inl ⟨rfl, fun s hs => absurd hs (Nat.not_lt_zero s)⟩
  | k + 1 => by
    cases hg : g k with
    | none =>
      rw [opO_n hg]
      rcases opO_sp (mx := mx) (g := g) k with ⟨h1, h2⟩ | ⟨v, h1, ⟨s0, a1, a2⟩, h3⟩
      · left
        exact ⟨h1, fun s hs => by rcases Nat.lt_or_ge s k with q | q; exact h2 s q; rw [show s = k by omega]; exact hg⟩
      · right
        refine ⟨v, h1, ⟨s0, by omega, a2⟩, fun s w hs hw => ?_⟩
        rcases Nat.lt_or_ge s k with q | q
        · exact h3 s w q hw
        · rw [show s = k by omega, hg] at hw; cases hw
    | some x =>
      right
      rcases opO_sp (mx := mx) (g := g) k with ⟨h1, h2⟩ | ⟨v, h1, ⟨s0, a1, a2⟩, h3⟩
      · rw [opO_f hg h1]
        refine ⟨x, rfl, ⟨k, by omega, hg⟩, fun s w hs hw => ?_⟩
        rcases Nat.lt_or_ge s k with q | q
        · rw [h2 s q] at hw; cases hw
        · rw [show s = k by omega, hg] at hw; cases hw; exact ⟨fun _ => Nat.le_refl _, fun _ => Nat.le_refl _⟩
      · rw [opO_s hg h1]
        refine ⟨_, rfl, ?_, fun s w hs hw => ?_⟩
        · by_cases q1 : mx % 2 = 0
          · rw [if_pos q1]
            by_cases q2 : v < x
            · rw [if_pos q2]; exact ⟨k, by omega, hg⟩
            · rw [if_neg q2]; exact ⟨s0, by omega, a2⟩
          · rw [if_neg q1]
            by_cases q2 : x < v
            · rw [if_pos q2]; exact ⟨k, by omega, hg⟩
            · rw [if_neg q2]; exact ⟨s0, by omega, a2⟩
        · have hk : (s < k ∧ g s = some w) ∨ w = x := by
            rcases Nat.lt_or_ge s k with q | q
            · exact Or.inl ⟨q, hw⟩
            · right; rw [show s = k by omega, hg] at hw; cases hw; rfl
          by_cases q1 : mx % 2 = 0
          · rw [if_pos q1]
            refine ⟨fun _ => ?_, fun z => absurd q1 z⟩
            rcases hk with q | q
            · have := (h3 s w q.1 q.2).1 q1; split <;> omega
            · split <;> omega
          · rw [if_neg q1]
            refine ⟨fun z => absurd z q1, fun _ => ?_⟩
            rcases hk with q | q
            · have := (h3 s w q.1 q.2).2 q1; split <;> omega
            · split <;> omega
theorem bst_u {mx k v w : Nat} {g : Nat → Option Nat} (h1 : bst mx g k v) (h2 : bst mx g k w) : v = w := by
  obtain ⟨⟨s1, a1, a2⟩, a3⟩ := h1
  obtain ⟨⟨s2, b1, b2⟩, b3⟩ := h2
  have p1 := a3 s2 w b1 b2
  have p2 := b3 s1 v a1 a2
  by_cases q : mx % 2 = 0
  · have := p1.1 q; have := p2.1 q; omega
  · have := p1.2 q; have := p2.2 q; omega
theorem cu_cu {C : Ci} {f j v w : Nat} : cu (cu C f j v) f j w = cu C f j w := by
  funext x y
  unfold cu
  by_cases q : x = f
  · by_cases q2 : y = j
    · simp only [if_pos q, if_pos q2]
    · simp only [if_pos q, if_neg q2]
  · simp only [if_neg q]
theorem cu_self {C : Ci} {f j : Nat} : cu C f j (C f j) = C := by
  funext x y
  unfold cu
  by_cases q : x = f
  · rw [if_pos q]
    by_cases q2 : y = j
    · rw [if_pos q2, q, q2]
    · rw [if_neg q2]
  · rw [if_neg q]
theorem bh_lt {C : Ci} (hw : wf C) (t : Nat) : bh C t < C 0 0 := by
  unfold bh
  split
  · exact hw.2.1
  · exact abv_lt hw.1.1
theorem tn_0 {D : Ci} {h s : Nat} : tn D h s 0 0 = D 0 0 := by unfold tn; split <;> rfl
theorem wf_tn {D : Ci} (hw : wf D) {h s : Nat} (hs : s < D 0 0) : wf (tn D h s) := by
  unfold tn
  split
  · exact hw
  · rename_i q; exact wf_l hw hs q
abbrev gV (m r t : Nat) (D : Ci) : Nat → Option Nat := fun s => if inv D (bh D t) s then none else some (vV m r (t + 1) (tn D (bh D t) s))
/-- the best of a turn, by what it is -/
theorem vV_b {m r t : Nat} {D : Ci} (hw : wf D) {v : Nat} (h : bst t (gV m r t D) 8 v) : vV m (r + 1) t D = v := by
  show (opO t (gV m r t D) 8).getD 0 = v
  rcases opO_sp (mx := t) (g := gV m r t D) 8 with ⟨h1, h2⟩ | ⟨w, h1, h2⟩
  · obtain ⟨⟨s, a1, a2⟩, _⟩ := h
    rw [h2 s a1] at a2; cases a2
  · rw [h1, bst_u h2 h]; rfl
theorem vV_o {m r t : Nat} {D : Ci} (hw : wf D) : opO t (gV m r t D) 8 = some (vV m (r + 1) t D) := by
  rcases opO_sp (mx := t) (g := gV m r t D) 8 with ⟨h1, h2⟩ | ⟨w, h1, h2⟩
  · have hb := bh_lt hw t
    have hP := hw.1
    have := h2 (bh D t) (by omega)
    have hn : ¬ inv D (bh D t) (bh D t) := fun q => by rcases q with q | q; omega; exact q.1 rfl
    have e : gV m r t D (bh D t) = some (vV m r (t + 1) (tn D (bh D t) (bh D t))) := if_neg hn
    rw [e] at this; cases this
  · rw [vV_b hw h2, h1]
theorem vV_le {m : Nat} : ∀ r t (D : Ci), D 0 0 ≤ 8 → vV m r t D ≤ 8
  | 0, t, D, h => ded_le (by rw [tkN_0]; exact h)
  | r + 1, t, D, h => by
    show (opO t (gV m r t D) 8).getD 0 ≤ 8
    rcases opO_sp (mx := t) (g := gV m r t D) 8 with ⟨h1, h2⟩ | ⟨w, h1, ⟨s, a1, a2⟩, a3⟩
    · rw [h1]; exact Nat.zero_le _
    · rw [h1]
      show w ≤ 8
      unfold gV at a2
      split at a2
      · cases a2
      · cases a2; exact vV_le r (t + 1) _ (by rw [tn_0]; exact h)
theorem vV_dead {m r t : Nat} {D : Ci} (hw : wf D) (hd : D 9 (bh D t) = 2) : vV m (r + 1) t D = vV m r (t + 1) D := by
  have hb := bh_lt hw t
  have hP := hw.1
  have hn : ¬ inv D (bh D t) (bh D t) := fun q => by rcases q with q | q; omega; exact q.1 rfl
  refine vV_b hw ⟨⟨bh D t, by omega, ?_⟩, fun s w hs hg => ?_⟩
  · show (if inv D (bh D t) (bh D t) then none else _) = _
    rw [if_neg hn]
    unfold tn
    rw [if_pos rfl]
  · unfold gV at hg
    by_cases q : s = bh D t
    · rw [q, if_neg hn] at hg
      unfold tn at hg
      rw [if_pos rfl] at hg
      cases hg
      exact ⟨fun _ => Nat.le_refl _, fun _ => Nat.le_refl _⟩
    · rw [if_pos (Or.inr ⟨q, hd⟩)] at hg; cases hg
/-- what the class keeps in its loop over seats -/
def lpI (m r t : Nat) (D : Ci) (k b : Nat) : Prop := (b = vV m r (t + 1) D ∨ ∃ s, s < k ∧ s < D 0 0 ∧ s ≠ bh D t ∧ b = vV m r (t + 1) (cu D 7 (bh D t) s)) ∧ (t % 2 = 0 → vV m r (t + 1) D ≤ b ∧ ∀ s, s < k → s ≠ bh D t → vV m r (t + 1) (cu D 7 (bh D t) s) ≤ b) ∧ (t % 2 ≠ 0 → b ≤ vV m r (t + 1) D ∧ ∀ s, s < k → s ≠ bh D t → b ≤ vV m r (t + 1) (cu D 7 (bh D t) s))
theorem lpI_0 {m r t : Nat} {D : Ci} : lpI m r t D 0 (vV m r (t + 1) D) := ⟨Or.inl rfl, fun _ => ⟨Nat.le_refl _, fun s hs => absurd hs (Nat.not_lt_zero s)⟩, fun _ => ⟨Nat.le_refl _, fun s hs => absurd hs (Nat.not_lt_zero s)⟩⟩
theorem lpI_e {m r t : Nat} {D : Ci} (hw : wf D) (hd : ¬ D 9 (bh D t) = 2) {b : Nat} (h : lpI m r t D (D 0 0) b) : vV m (r + 1) t D = b := by
  have hb := bh_lt hw t
  have hP := hw.1
  obtain ⟨h1, h2, h3⟩ := h
  have hv : ∀ s, s < D 0 0 → gV m r t D s = some (vV m r (t + 1) (tn D (bh D t) s)) := fun s hs => if_neg fun q => by rcases q with q | q; omega; exact hd q.2
  refine vV_b hw ⟨?_, fun s w hs hg => ?_⟩
  · rcases h1 with q | ⟨s, q1, q2, q3, q4⟩
    · refine ⟨bh D t, by omega, ?_⟩
      rw [hv _ hb]; unfold tn; rw [if_pos rfl, q]
    · refine ⟨s, by omega, ?_⟩
      rw [hv s q2]; unfold tn; rw [if_neg q3, q4]
  · have hsP : s < D 0 0 := by
      rcases Nat.lt_or_ge s (D 0 0) with q | q
      · exact q
      · have : gV m r t D s = none := if_pos (Or.inl q)
        rw [this] at hg; cases hg
    rw [hv s hsP] at hg
    unfold tn at hg
    by_cases q : s = bh D t
    · rw [if_pos q] at hg; cases hg
      exact ⟨fun z => (h2 z).1, fun z => (h3 z).1⟩
    · rw [if_neg q] at hg; cases hg
      exact ⟨fun z => (h2 z).2 s hsP q, fun z => (h3 z).2 s hsP q⟩
theorem lpI_sk {m r t : Nat} {D : Ci} {k b : Nat} (h : lpI m r t D k b) (hk : k = bh D t ∨ k = D 7 (bh D t)) : lpI m r t D (k + 1) b := by
  obtain ⟨h1, h2, h3⟩ := h
  have hx : k ≠ bh D t → vV m r (t + 1) (cu D 7 (bh D t) k) = vV m r (t + 1) D := fun z => by rw [hk.resolve_left z, cu_self]
  refine ⟨?_, fun z => ⟨(h2 z).1, fun s hs hn => ?_⟩, fun z => ⟨(h3 z).1, fun s hs hn => ?_⟩⟩
  · rcases h1 with q | ⟨s, q1, q2⟩
    · exact Or.inl q
    · exact Or.inr ⟨s, by omega, q2⟩
  · rcases Nat.lt_or_ge s k with q | q
    · exact (h2 z).2 s q hn
    · have e : s = k := by omega
      rw [e] at hn ⊢
      rw [hx hn]; exact (h2 z).1
  · rcases Nat.lt_or_ge s k with q | q
    · exact (h3 z).2 s q hn
    · have e : s = k := by omega
      rw [e] at hn ⊢
      rw [hx hn]; exact (h3 z).1
theorem lpI_st {m r t : Nat} {D : Ci} {k b : Nat} (h : lpI m r t D k b) (hk : k < D 0 0) (hn0 : k ≠ bh D t) : lpI m r t D (k + 1) (if t % 2 = 0 then (if b < vV m r (t + 1) (cu D 7 (bh D t) k) then vV m r (t + 1) (cu D 7 (bh D t) k) else b) else (if vV m r (t + 1) (cu D 7 (bh D t) k) < b then vV m r (t + 1) (cu D 7 (bh D t) k) else b)) := by
  obtain ⟨h1, h2, h3⟩ := h
  have h1' : ∀ x, x = b ∨ x = vV m r (t + 1) (cu D 7 (bh D t) k) → x = vV m r (t + 1) D ∨ ∃ s, s < k + 1 ∧ s < D 0 0 ∧ s ≠ bh D t ∧ x = vV m r (t + 1) (cu D 7 (bh D t) s) := fun x hx => by
    rcases hx with hx | hx
    · rcases h1 with q | ⟨s, q1, q2, q3, q4⟩
      · exact Or.inl (hx.trans q)
      · exact Or.inr ⟨s, by omega, q2, q3, hx.trans q4⟩
    · exact Or.inr ⟨k, by omega, hk, hn0, hx⟩
  have hs2 : ∀ s, s < k + 1 → s < k ∨ s = k := fun s hs => by omega
  by_cases q1 : t % 2 = 0
  · rw [if_pos q1]
    obtain ⟨p1, p2⟩ := h2 q1
    refine ⟨h1' _ (by split; exact Or.inr rfl; exact Or.inl rfl), fun _ => ⟨by split <;> omega, fun s hs hn => ?_⟩, fun z => absurd q1 z⟩
    rcases hs2 s hs with q | q
    · have := p2 s q hn; split <;> omega
    · rw [q]; split <;> omega
  · rw [if_neg q1]
    obtain ⟨p1, p2⟩ := h3 q1
    refine ⟨h1' _ (by split; exact Or.inr rfl; exact Or.inl rfl), fun z => absurd z q1, fun _ => ⟨by split <;> omega, fun s hs hn => ?_⟩⟩
    rcases hs2 s hs with q | q
    · have := p2 s q hn; split <;> omega
    · rw [q]; split <;> omega
