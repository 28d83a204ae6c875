/-! THE STATE OF BOTH: rows, tape, fault, status, the circle (no players: none), acts, images, trace -/
abbrev Rw : Type := Nat → Option (Nat × Nat × (Nat → Int32))
abbrev Sx : Type := Rw × (Nat × (Nat → Nat)) × Nat × Nat × Ci × (Nat × (Nat → Ci)) × (Nat → Option Ci) × (Nat × (Nat → Nat))
abbrev sR (S : Sx) := S.1
abbrev sT (S : Sx) := S.2.1
abbrev sF (S : Sx) := S.2.2.1
abbrev sS (S : Sx) := S.2.2.2.1
abbrev sC (S : Sx) := S.2.2.2.2.1
abbrev sH (S : Sx) := S.2.2.2.2.2.1
abbrev sI (S : Sx) := S.2.2.2.2.2.2.1
abbrev sG (S : Sx) := S.2.2.2.2.2.2.2
def cRow (M : Mm) (R : Rw) : Prop := ∀ r, r < 8 → match R r with
  | none => M 12 r = c_m1
  | some q => M 11 r = nI q.1 ∧ M 12 r = nI q.2.1 ∧ ∀ i, i < 40 → M (3 + r) i = q.2.2 i
def mRow' (M : Mm) (R : Rw) : Prop := ∀ r, r < 8 → match R r with
  | none => M 233 r = c_m1
  | some q => M 233 r = nI q.1 ∧ M 234 r = nI q.2.1 ∧ ∀ i, i < 40 → M 235 (40 * r + i) = q.2.2 i
def cTap (M : Mm) (T : Nat × (Nat → Nat)) : Prop := M 13 1 = nI T.1 ∧ ∀ i, i < T.1 → M 14 i = nI (T.2 i)
def mTap (M : Mm) (T : Nat × (Nat → Nat)) : Prop := M 232 14 = nI T.1 ∧ ∀ i, i < T.1 → M 243 i = (nI (T.2 i)).toInt8.toInt32
def cAct (M : Mm) (H : Nat × (Nat → Ci)) : Prop := ∃ o, o < 24 ∧ M 29 1 = nI o ∧ M 29 2 = nI H.1 ∧ ∀ i, i < H.1 → rC M (31 + 7 * ((o + i) % 24)) (H.2 i)
def mAct (M : Mm) (H : Nat × (Nat → Ci)) : Prop := M 232 9 = nI H.1 ∧ ∀ i, i < H.1 → rR M 239 (54 * i) (H.2 i)
def cImg (M : Mm) (I : Nat → Option Ci) : Prop := ∀ k, k < 2 → match I k with
  | none => M (200 + 7 * k) 0 = nI 0
  | some C => rC M (200 + 7 * k) C
def mImg (M : Mm) (I : Nat → Option Ci) : Prop := ∀ k, k < 2 → match I k with
  | none => M 241 k = nI 0
  | some C => M 241 k = nI 1 ∧ rR M 240 (54 * k) C
def cTrc (M : Mm) (G : Nat × (Nat → Nat)) : Prop := M 230 1 = nI G.1 ∧ ∀ i, i < G.1 → M 231 i = nI (G.2 i)
def mTrc (M : Mm) (G : Nat × (Nat → Nat)) : Prop := M 232 23 = nI G.1 ∧ ∀ i, i < G.1 → M 245 i = nI (G.2 i)
def RC (M : Mm) (S : Sx) : Prop := cRow M (sR S) ∧ cTap M (sT S) ∧ M 0 8 = nI (sF S) ∧ M 0 9 = nI (sS S) ∧ rC M 15 (sC S) ∧ cAct M (sH S) ∧ cImg M (sI S) ∧ cTrc M (sG S)
def RR (M : Mm) (S : Sx) : Prop := mRow' M (sR S) ∧ mTap M (sT S) ∧ M 232 15 = nI (sF S) ∧ M 232 3 = nI (sS S) ∧ (rR M 237 0 (sC S) ∧ M 232 5 = nI (if sC S 0 0 = 0 then 0 else 1)) ∧ mAct M (sH S) ∧ mImg M (sI S) ∧ mTrc M (sG S)
def cz (C : Ci) : Prop := ∀ x y, C x y = 0
def wfT (C : Ci) : Prop := wf C ∧ C 3 0 ≤ 999
def okS (S : Sx) : Prop := (∀ r q, sR S r = some q → q.1 ≤ 2 ∧ q.2.1 ≤ 40) ∧ ((sT S).1 ≤ 100 ∧ ∀ i, i < (sT S).1 → (sT S).2 i < 256) ∧ sF S ≤ 3 ∧ sS S ≤ 5 ∧ ((cz (sC S) ∧ (sH S).1 = 0 ∧ ∀ k, sI S k = none) ∨ wfT (sC S)) ∧ ((sH S).1 ≤ 24 ∧ ∀ i, i < (sH S).1 → wfT ((sH S).2 i)) ∧ (∀ k C, sI S k = some C → wfT C) ∧ (sG S).1 ≤ 16
def frX (M M' : Mm) : Prop := ∀ x, 232 ≤ x → M' x = M x
def frM (M M' : Mm) : Prop := ∀ x, x < 232 ∨ 246 ≤ x → M' x = M x
theorem frX.rf {M : Mm} : frX M M := fun _ _ => rfl
theorem frM.rf {M : Mm} : frM M M := fun _ _ => rfl
theorem frX.tr {M M1 M2 : Mm} (h1 : frX M M1) (h2 : frX M1 M2) : frX M M2 := fun x hx => (h2 x hx).trans (h1 x hx)
theorem frM.tr {M M1 M2 : Mm} (h1 : frM M M1) (h2 : frM M1 M2) : frM M M2 := fun x hx => (h2 x hx).trans (h1 x hx)
theorem frS.X {M M' : Mm} (h : frS M M') : frX M M' := fun x hx => h x (by omega)
theorem fr.X {M M' : Mm} {c : Nat} (h : fr c M M') (hc : c + 6 < 232) : frX M M' := fun x hx => h x (by omega)
theorem fr1.M {M M' : Mm} {a : Nat} (h : fr1 a M M') (h1 : 232 ≤ a) (h2 : a < 246) : frM M M' := fun x hx => h x (by omega)
theorem frP.M {M M' : Mm} {a : Nat} (h : frP a M M') (h1 : 232 ≤ a) (h2 : a < 246) : frM M M' := fun x hx => h x (by omega) (by omega)
theorem um_X (M : Mm) {a k : Nat} {v : Int32} (h : a < 232) : frX M (um M a k v) := fun x hx => um_ne M a k v (by omega)
theorem um_M (M : Mm) {a k : Nat} {v : Int32} (h1 : 232 ≤ a) (h2 : a < 246) : frM M (um M a k v) := fun x hx => um_ne M a k v (by omega)
theorem rC.cp {M M' : Mm} {c : Nat} {C : Ci} (h : rC M c C) (hf : ∀ x, c ≤ x → x ≤ c + 6 → M' x = M x) : rC M' c C := ⟨fun k hk => by rw [hf c (by omega) (by omega)]; exact h.1 k hk, fun f h1 h2 j hj => by rw [hf _ (by omega) (by omega)]; exact h.2 f h1 h2 j hj⟩
/-! each part stays if its own cells do -/
theorem cRow.cp {M M' : Mm} {R : Rw} (h : cRow M R) (hf : ∀ x, 3 ≤ x → x ≤ 12 → M' x = M x) : cRow M' R := by
  intro r hr
  have := h r hr
  cases hR : R r with
  | none => rw [hR] at this; show M' 12 r = c_m1; rw [hf 12 (by decide) (by decide)]; exact this
  | some q => rw [hR] at this; exact ⟨by rw [hf 11 (by decide) (by decide)]; exact this.1, by rw [hf 12 (by decide) (by decide)]; exact this.2.1, fun i hi => by rw [hf (3 + r) (by omega) (by omega)]; exact this.2.2 i hi⟩
theorem cTap.cp {M M' : Mm} {T : Nat × (Nat → Nat)} (h : cTap M T) (h1 : M' 13 = M 13) (h2 : M' 14 = M 14) : cTap M' T := ⟨by rw [h1]; exact h.1, fun i hi => by rw [h2]; exact h.2 i hi⟩
theorem cAct.cp {M M' : Mm} {H : Nat × (Nat → Ci)} (h : cAct M H) (hf : ∀ x, 29 ≤ x → x ≤ 198 → M' x = M x) : cAct M' H := by
  obtain ⟨o, ho, h1, h2, h3⟩ := h
  refine ⟨o, ho, by rw [hf 29 (by decide) (by decide)]; exact h1, by rw [hf 29 (by decide) (by decide)]; exact h2, fun i hi => (h3 i hi).cp fun x hx1 hx2 => hf x (by omega) (by have : (o + i) % 24 < 24 := Nat.mod_lt _ (by decide); omega)⟩
theorem cImg.cp {M M' : Mm} {I : Nat → Option Ci} (h : cImg M I) (hf : ∀ x, 200 ≤ x → x ≤ 213 → M' x = M x) : cImg M' I := by
  intro k hk
  have := h k hk
  cases hI : I k with
  | none => rw [hI] at this; show M' (200 + 7 * k) 0 = nI 0; rw [hf _ (by omega) (by omega)]; exact this
  | some C => rw [hI] at this; exact rC.cp this fun x h1 h2 => hf x (by omega) (by omega)
theorem cTrc.cp {M M' : Mm} {G : Nat × (Nat → Nat)} (h : cTrc M G) (h1 : M' 230 = M 230) (h2 : M' 231 = M 231) : cTrc M' G := ⟨by rw [h1]; exact h.1, fun i hi => by rw [h2]; exact h.2 i hi⟩
theorem RC.cp {M M' : Mm} {S : Sx} (h : RC M S) (hf : ∀ x, x < 214 ∨ (229 < x ∧ x < 232) → M' x = M x) : RC M' S := by
  obtain ⟨h1, h2, h3, h4, h5, h6, h7, h8⟩ := h
  exact ⟨h1.cp fun x _ _ => hf x (by omega), h2.cp (hf 13 (by decide)) (hf 14 (by decide)), by rw [hf 0 (by decide)]; exact h3, by rw [hf 0 (by decide)]; exact h4, h5.cp fun x _ _ => hf x (by omega), h6.cp fun x _ _ => hf x (by omega), h7.cp fun x _ _ => hf x (by omega), h8.cp (hf 230 (by decide)) (hf 231 (by decide))⟩
theorem RC.S {M M' : Mm} {S : Sx} (h : RC M S) (hf : frS M M') : RC M' S := h.cp fun x hx => hf x (by omega)
theorem RC.M {M M' : Mm} {S : Sx} (h : RC M S) (hf : frM M M') : RC M' S := h.cp fun x hx => hf x (by omega)
theorem mRow'.cp {M M' : Mm} {R : Rw} (h : mRow' M R) (h1 : M' 233 = M 233) (h2 : M' 234 = M 234) (h3 : M' 235 = M 235) : mRow' M' R := by
  intro r hr
  have := h r hr
  cases hR : R r with
  | none => rw [hR] at this; show M' 233 r = c_m1; rw [h1]; exact this
  | some q => rw [hR] at this; exact ⟨by rw [h1]; exact this.1, by rw [h2]; exact this.2.1, fun i hi => by rw [h3]; exact this.2.2 i hi⟩
theorem mTap.cp {M M' : Mm} {T : Nat × (Nat → Nat)} (h : mTap M T) (h1 : M' 232 14 = M 232 14) (h2 : M' 243 = M 243) : mTap M' T := ⟨by rw [h1]; exact h.1, fun i hi => by rw [h2]; exact h.2 i hi⟩
theorem mAct.cp {M M' : Mm} {H : Nat × (Nat → Ci)} (h : mAct M H) (h1 : M' 232 9 = M 232 9) (h2 : M' 239 = M 239) : mAct M' H := ⟨by rw [h1]; exact h.1, fun i hi => (h.2 i hi).row h2⟩
theorem mImg.cp {M M' : Mm} {I : Nat → Option Ci} (h : mImg M I) (h1 : M' 240 = M 240) (h2 : M' 241 = M 241) : mImg M' I := by
  intro k hk
  have := h k hk
  cases hI : I k with
  | none => rw [hI] at this; show M' 241 k = nI 0; rw [h2]; exact this
  | some C => rw [hI] at this; exact ⟨by rw [h2]; exact this.1, rR.row this.2 h1⟩
theorem mTrc.cp {M M' : Mm} {G : Nat × (Nat → Nat)} (h : mTrc M G) (h1 : M' 232 23 = M 232 23) (h2 : M' 245 = M 245) : mTrc M' G := ⟨by rw [h1]; exact h.1, fun i hi => by rw [h2]; exact h.2 i hi⟩
/-- tried, looks, moved, comes, and the reader's own numbers don't count -/
theorem RR.cp {M M' : Mm} {S : Sx} (h : RR M S) (h0 : ∀ k, k = 3 ∨ k = 5 ∨ k = 9 ∨ k = 14 ∨ k = 15 ∨ k = 23 → M' 232 k = M 232 k) (hf : ∀ x, x = 233 ∨ x = 234 ∨ x = 235 ∨ x = 237 ∨ x = 239 ∨ x = 240 ∨ x = 241 ∨ x = 243 ∨ x = 245 → M' x = M x) : RR M' S := by
  obtain ⟨h1, h2, h3, h4, ⟨h5, h5'⟩, h6, h7, h8⟩ := h
  exact ⟨h1.cp (hf _ (by decide)) (hf _ (by decide)) (hf _ (by decide)), h2.cp (h0 _ (by decide)) (hf _ (by decide)), by rw [h0 _ (by decide)]; exact h3, by rw [h0 _ (by decide)]; exact h4, ⟨h5.row (hf _ (by decide)), by rw [h0 _ (by decide)]; exact h5'⟩, h6.cp (h0 _ (by decide)) (hf _ (by decide)), h7.cp (hf _ (by decide)) (hf _ (by decide)), h8.cp (h0 _ (by decide)) (hf _ (by decide))⟩
theorem RR.X {M M' : Mm} {S : Sx} (h : RR M S) (hf : frX M M') : RR M' S := h.cp (fun k _ => by rw [hf 232 (by decide)]) fun x hx => hf x (by omega)
theorem RR.T {M M' : Mm} {S : Sx} (h : RR M S) (hf : frP 238 M M') : RR M' S := h.cp (fun k _ => by rw [hf 232 (by decide) (by decide)]) fun x hx => hf x (by omega) (by omega)
theorem RR.T1 {M M' : Mm} {S : Sx} (h : RR M S) (hf : fr1 238 M M') : RR M' S := h.T hf.P
/-- both answer alike, and are as one state afterwards -/
def okV (v : Value) (S : Sx) : Prop := match v with
  | .int _ => okS S
  | _ => False
def okW' (v : Value) (S : Sx) : Prop := match v with
  | .long _ => okS S
  | _ => False
def Both (nx nm : Nat) (args : List Value) (S : Sx) : Prop := ∃ (v : Value) (S' : Sx), okV v S' ∧ (∀ (d : Nat) (M : Mm) (L : Ml) (Q : Qt), RC M S → (∀ M' L', RC M' S' → frX M M' → Q (some v) M' L') → Good (d + 20) nx (.ref 0 :: args) M L Q) ∧ (∀ (d : Nat) (M : Mm) (L : Ml) (Q : Qt), RR M S → (∀ M' L', RR M' S' → frM M M' → Q (some v) M' L') → Good (d + 20) nm (.ref 232 :: args) M L Q)
def BothL (nx nm : Nat) (args : List Value) (S : Sx) : Prop := ∃ (v : Value) (S' : Sx), okW' v S' ∧ (∀ (d : Nat) (M : Mm) (L : Ml) (Q : Qt), RC M S → (∀ M' L', RC M' S' → frX M M' → Q (some v) M' L') → Good (d + 20) nx (.ref 0 :: args) M L Q) ∧ (∀ (d : Nat) (M : Mm) (L : Ml) (Q : Qt), RR M S → (∀ M' L', RR M' S' → frM M M' → Q (some v) M' L') → Good (d + 20) nm (.ref 232 :: args) M L Q)
