/-! the answers' numbers, under names: a kernel that compares them as numbers goes deep -/
noncomputable def c_NONE : Int32 := cI (-1000000)
theorem cm_1000000 : cI (-1000000) = c_NONE := rfl
noncomputable def c_BAD : Int32 := cI (-1000001)
theorem cm_1000001 : cI (-1000001) = c_BAD := rfl
noncomputable def c_STATE : Int32 := cI (-1000002)
theorem cm_1000002 : cI (-1000002) = c_STATE := rfl
noncomputable def c_FULL : Int32 := cI (-1000003)
theorem cm_1000003 : cI (-1000003) = c_FULL := rfl
noncomputable def c_FIND : Int32 := cI (-1000010)
theorem cm_1000010 : cI (-1000010) = c_FIND := rfl
noncomputable def c_FLT : Int32 := cI (-1000100)
theorem cm_1000100 : cI (-1000100) = c_FLT := rfl
noncomputable def c_m1 : Int32 := cI (-1)
theorem cm_1 : cI (-1) = c_m1 := rfl
noncomputable def l_BAD : Int64 := lI (-1000001)
theorem lm_1000001 : lI (-1000001) = l_BAD := rfl
noncomputable def l_STATE : Int64 := lI (-1000002)
theorem lm_1000002 : lI (-1000002) = l_STATE := rfl
theorem c_m1_e : c_m1 = -1 := by rw [← cm_1, cI_e]; decide
theorem c_m1_i : c_m1.toInt = -1 := by rw [← cm_1, cI_e]; decide
theorem c_NONE_i : c_NONE.toInt = -1000000 := by rw [← cm_1000000, cI_e]; decide +kernel
/-! how the class holds a circle -/
noncomputable def lkC (v : Nat) : Int32 := if v = 99 then c_NONE else nI v
noncomputable def lkR (v : Nat) : Int32 := if v = 99 then c_m1 else nI v
def cirL : List Nat := [15, 22, 31, 38, 45, 52, 59, 66, 73, 80, 87, 94, 101, 108, 115, 122, 129, 136, 143, 150, 157, 164, 171, 178, 185, 192, 200, 207, 215, 222]
def isC (c : Nat) : Prop := c ∈ cirL
theorem isC_f : ∀ c ∈ cirL, kd c = 2 ∧ (kd (c + 1) = 9 ∧ kd (c + 2) = 9 ∧ kd (c + 3) = 9 ∧ kd (c + 4) = 9 ∧ kd (c + 5) = 9 ∧ kd (c + 6) = 9) ∧ (ln (c + 1) = 8 ∧ ln (c + 2) = 8 ∧ ln (c + 3) = 8 ∧ ln (c + 4) = 8 ∧ ln (c + 5) = 8 ∧ ln (c + 6) = 8) := by decide +kernel
/-- two circles lie apart -/
theorem isC_apart : ∀ c ∈ cirL, ∀ e ∈ cirL, c ≠ e → c + 6 < e ∨ e + 6 < c := by decide +kernel
def rC (M : Mm) (c : Nat) (C : Ci) : Prop := (∀ k, k < 6 → M c k = nI (C k 0)) ∧ ∀ f, 6 ≤ f → f ≤ 11 → ∀ j, j < C 0 0 → M (c + (f - 5)) j = if f = 7 then lkC (C f j) else nI (C f j)
def fr (c : Nat) (M M' : Mm) : Prop := ∀ x, x < c ∨ c + 6 < x → M' x = M x
theorem fr.rf {c : Nat} {M : Mm} : fr c M M := fun _ _ => rfl
theorem fr.tr {c : Nat} {M M1 M2 : Mm} (h1 : fr c M M1) (h2 : fr c M1 M2) : fr c M M2 := fun x hx => (h2 x hx).trans (h1 x hx)
theorem fr.um {c : Nat} {M M1 : Mm} (h : fr c M M1) {a k : Nat} {v : Int32} (h1 : c ≤ a) (h2 : a ≤ c + 6) : fr c M (um M1 a k v) := fun x hx => (um_ne M1 a k v (by omega)).trans (h x hx)
section
variable {M : Mm} {c : Nat} {C : Ci}
theorem rC.k (h : rC M c C) {j : Nat} (hj : j < C 0 0) : M (c + 1) j = nI (C 6 j) := h.2 6 (by decide) (by decide) j hj
theorem rC.l (h : rC M c C) {j : Nat} (hj : j < C 0 0) : M (c + 2) j = lkC (C 7 j) := (h.2 7 (by decide) (by decide) j hj).trans (if_pos rfl)
theorem rC.s (h : rC M c C) {j : Nat} (hj : j < C 0 0) : M (c + 3) j = nI (C 8 j) := h.2 8 (by decide) (by decide) j hj
theorem rC.h (h : rC M c C) {j : Nat} (hj : j < C 0 0) : M (c + 4) j = nI (C 9 j) := h.2 9 (by decide) (by decide) j hj
theorem rC.f (h : rC M c C) {j : Nat} (hj : j < C 0 0) : M (c + 5) j = nI (C 10 j) := h.2 10 (by decide) (by decide) j hj
theorem rC.w (h : rC M c C) {j : Nat} (hj : j < C 0 0) : M (c + 6) j = nI (C 11 j) := h.2 11 (by decide) (by decide) j hj
theorem rC.sc (h : rC M c C) {k v : Nat} (hk1 : 1 ≤ k) (hk : k < 6) : rC (um M c k (nI v)) c (cu C k 0 v) := by
  have e0 : cu C k 0 v 0 0 = C 0 0 := cu_ne (by omega)
  refine ⟨fun x hx => ?_, fun f h1 h2 j hj => ?_⟩
  · by_cases q : x = k
    · subst q; rw [cu_s]; unfold um; rw [if_pos rfl, if_pos rfl]
    · rw [cu_ne q]; unfold um; rw [if_pos rfl, if_neg q]; exact h.1 x hx
  · rw [e0] at hj
    rw [cu_ne (by omega), um_ne _ _ _ _ (by omega)]
    exact h.2 f h1 h2 j hj
theorem rC.ar (h : rC M c C) (f j v : Nat) (h1 : 6 ≤ f) (h2 : f ≤ 11) : rC (um M (c + (f - 5)) j (if f = 7 then lkC v else nI v)) c (cu C f j v) := by
  have e0 : cu C f j v 0 0 = C 0 0 := cu_ne (by omega)
  refine ⟨fun x hx => ?_, fun g g1 g2 i hi => ?_⟩
  · rw [um_ne _ _ _ _ (by omega), cu_ne (by omega)]
    exact h.1 x hx
  · rw [e0] at hi
    by_cases q : g = f
    · subst q
      rw [cu_at, um_self]
      unfold upd
      by_cases z : i = j
      · rw [if_pos z, if_pos z]
      · rw [if_neg z, if_neg z]
        exact h.2 g g1 g2 i hi
    · rw [cu_ne q, um_ne _ _ _ _ (by omega)]
      exact h.2 g g1 g2 i hi
theorem rC.a7 (h : rC M c C) (j v : Nat) : rC (um M (c + 2) j (lkC v)) c (cu C 7 j v) := by
  have := h.ar 7 j v (by decide) (by decide)
  rw [if_pos rfl] at this
  exact this
theorem rC.a9 (h : rC M c C) (j v : Nat) : rC (um M (c + 4) j (nI v)) c (cu C 9 j v) := h.ar 9 j v (by decide) (by decide)
theorem rC.a10 (h : rC M c C) (j v : Nat) : rC (um M (c + 5) j (nI v)) c (cu C 10 j v) := h.ar 10 j v (by decide) (by decide)
theorem rC.a11 (h : rC M c C) (j v : Nat) : rC (um M (c + 6) j (nI v)) c (cu C 11 j v) := h.ar 11 j v (by decide) (by decide)
/-- what counts of a circle -/
theorem rC.cg {C' : Ci} (h : rC M c C) (h0 : ∀ k, k < 6 → C' k 0 = C k 0) (hf : ∀ f, 6 ≤ f → f ≤ 11 → ∀ j, j < C 0 0 → C' f j = C f j) : rC M c C' := by
  refine ⟨fun k hk => by rw [h0 k hk]; exact h.1 k hk, fun f h1 h2 j hj => ?_⟩
  rw [h0 0 (by decide)] at hj
  rw [hf f h1 h2 j hj]
  exact h.2 f h1 h2 j hj
theorem rC.fr {e : Nat} {M' : Mm} (h : rC M e C) (hf : fr c M M') (ha : c + 6 < e ∨ e + 6 < c) : rC M' e C := by
  refine ⟨fun k hk => by rw [hf e (by omega)]; exact h.1 k hk, fun f h1 h2 j hj => by rw [hf _ (by omega)]; exact h.2 f h1 h2 j hj⟩
end
theorem lkC_n {v : Nat} (h : v < 100) : (lkC v = c_NONE) ↔ v = 99 := by
  unfold lkC
  by_cases q : v = 99
  · rw [if_pos q]; exact ⟨fun _ => q, fun _ => rfl⟩
  · rw [if_neg q]
    refine ⟨fun z => ?_, fun z => absurd z q⟩
    have := congrArg Int32.toInt z
    rw [nI_toInt (by omega)] at this
    have e := c_NONE_i
    omega
theorem lkC_e {v : Nat} (h : v ≠ 99) : lkC v = nI v := if_neg h
theorem lkC_99 : lkC 99 = c_NONE := rfl
theorem lkC_eq {v s : Nat} (hv : v < 100) (hs : s < 99) : (lkC v = nI s) ↔ v = s := by
  unfold lkC
  by_cases q : v = 99
  · rw [if_pos q]
    refine ⟨fun z => ?_, fun z => absurd z (by omega)⟩
    have := congrArg Int32.toInt z
    rw [nI_toInt (by omega)] at this
    have e := c_NONE_i
    omega
  · rw [if_neg q]
    exact nI_eq (by omega) (by omega)
theorem w_zr0 {J K : Jt} {C : Ct} {Q : Qt} {os : List Instr} {ls : Lc} {M : Mm} {L : Ml} : wp J K C Q (.freturn :: os) ls [.int (nI 0)] M L = Q (some (.int (nI 0))) M L := propext ⟨fun h => h.2, fun h => ⟨Or.inl nI_0, h⟩⟩
theorem w_zr1 {J K : Jt} {C : Ct} {Q : Qt} {os : List Instr} {ls : Lc} {M : Mm} {L : Ml} : wp J K C Q (.freturn :: os) ls [.int (nI 1)] M L = Q (some (.int (nI 1))) M L := propext ⟨fun h => h.2, fun h => ⟨Or.inr (by decide), h⟩⟩
theorem n_or (a b : Nat) : nI a ||| nI b = nI (a ||| b) := Int32.toBitVec_inj.mp (by show BitVec.ofNat 32 a ||| BitVec.ofNat 32 b = BitVec.ofNat 32 (a ||| b); rw [BitVec.ofNat_or])
theorem n_and (a b : Nat) : nI a &&& nI b = nI (a &&& b) := Int32.toBitVec_inj.mp (by show BitVec.ofNat 32 a &&& BitVec.ofNat 32 b = BitVec.ofNat 32 (a &&& b); rw [BitVec.ofNat_and])
theorem sh1 : ∀ k, k < 16 → nI 1 <<< (nI k &&& 31) = nI (2 ^ k) := by decide +kernel
theorem or_pow {a k : Nat} (h : a < 2 ^ k) : a ||| 2 ^ k = a + 2 ^ k := by
  have := Nat.two_pow_add_eq_or_of_lt h 1
  rw [Nat.mul_one] at this
  rw [Nat.or_comm, ← this, Nat.add_comm]
theorem btK_lt (f : Nat → Prop) [∀ j, Decidable (f j)] : ∀ k, btK f k < 2 ^ k
  | 0 => Nat.one_pos
  | k + 1 => by
    have := btK_lt f k
    unfold btK
    rw [Nat.pow_succ]
    split <;> omega
theorem bt_or (f : Nat → Prop) [∀ j, Decidable (f j)] {k : Nat} (hk : k < 16) (h : f k) : nI (btK f k) ||| nI 1 <<< (nI k &&& 31) = nI (btK f (k + 1)) := by
  rw [sh1 k hk, n_or, or_pow (btK_lt f k)]
  show _ = nI (if f k then btK f k + 2 ^ k else btK f k)
  rw [if_pos h]
theorem bt_no (f : Nat → Prop) [∀ j, Decidable (f j)] {k : Nat} (h : ¬ f k) : btK f k = btK f (k + 1) := by
  show _ = (if f k then btK f k + 2 ^ k else btK f k)
  rw [if_neg h]
theorem shr1 : ∀ a, a < 256 → ∀ k, k < 9 → (nI a >>> (nI k &&& 31)) &&& nI 1 = nI (a / 2 ^ k % 2) := by decide +kernel
theorem zb0 : (nI 0 = 0 ∨ nI 0 = 1) = True := eq_true (Or.inl nI_0)
theorem zb1 : (nI 1 = 0 ∨ nI 1 = 1) = True := eq_true (Or.inr (by decide))
theorem zn0 : nI 0 = (0 : Int32) := nI_0
theorem exj {n i : Nat} {P : Nat → Prop} (h : i < n) (hp : P i) : ∃ j, nI i = nI j ∧ j < n ∧ P j := ⟨i, rfl, h, hp⟩
/-- what a method's end may take of the memory: a weaker end -/
theorem Good.mono {d n : Nat} {as : List Value} {M : Mm} {L : Ml} {Q Q' : Qt} (h : Good d n as M L Q) (hq : ∀ r M L, Q r M L → Q' r M L) : Good d n as M L Q' := by
  intro l w hw
  have h3 := h l w hw
  unfold Met MetFree at h3 ⊢
  intro p e q1 q2 q3 s m args below q4 q5 q6 q7
  obtain ⟨k, o, g1, g2, g3, ⟨⟨⟨r, M', L', e1, e2, e3⟩, e4⟩, g5⟩⟩ := h3 p e q1 q2 q3 s m args below q4 q5 q6 q7
  exact ⟨k, o, g1, g2, g3, ⟨⟨⟨r, M', L', e1, hq _ _ _ e2, e3⟩, e4⟩, g5⟩⟩
theorem callOk {d d' n : Nat} {as : List Value} {M : Mm} {L : Ml} {Q : Qt} (hd : d' < d) (h : Good d' n as M L Q) : CallOk d n as M L Q := ⟨d', hd, h⟩
