/-! THE MACHINE BENEATH: Runs and Good are statements of the machine -/
def scOk (w : Wc) (M : Mm) (s : State) (H : Heap) : Prop := ∃ (Ls : Nat) (xs : Nat → Int32), va_X (w.1 1000) Ls xs s H ∧ Ls ≤ 3072 ∧ M 1000 0 = nI Ls ∧ ∀ j, j < Ls → M 1000 (j + 1) = xs j
def hpOk (w : Wc) (M : Mm) (L : Ml) (s : State) (H : Heap) : Prop := va_P w.2.1 vwCl (wsM w M L) H ∧ scOk w M s H
def rmD (d : Nat) : Room := { frames := d + 1, cells := 0, slots := 0, locals := 64 * (d + 1) }
def mW (n : Nat) : List Cond := Cond.code (mN n) (mC n) (mL n) (mR n) :: tg
def Act (n d : Nat) (w : Wc) (p : Program) (R : Room) (s : State) (m : MethodId) (args : Array Value) (c : Code) : Prop :=
  p.tables.exec = Jvm.exec ∧ c.code = mC n ∧ c.maxLocals = mL n ∧ s.vm.findClass (cn (mO n)) = some m.cls ∧ (∀ q ∈ tg, q.before args s = true) ∧ va_K w.2.1 vwCl (tyW w) s ∧ nwOk s ∧ wOk w ∧ (w.1 1000 < s.heap.size ∧ ¬ frA w (w.1 1000)) ∧ d + 1 ≤ R.frames ∧ 64 * (d + 1) ≤ R.locals
def rAt (n pc : Nat) (r : Option Value) : Prop := match r with
  | none => decode (mC n) pc = .ok (.return_, 1) ∧ mR n = none
  | some (.int v) => decode (mC n) pc = .ok (.ireturn, 1) ∧ (mR n = some .int ∨ (mR n = some .boolean ∧ (v = 0 ∨ v = 1)))
  | some (.long _) => decode (mC n) pc = .ok (.lreturn, 1) ∧ mR n = some .long
  | some (.ref _) => decode (mC n) pc = .ok (.areturn, 1) ∧ mR n = some (.object "WinkCircle$Circle")
  | _ => False
def RetOK (n : Nat) (w : Wc) (p : Program) (l : Launch) (e : Env) (R : Room) (s : State) (m : MethodId) (args : Array Value) (below : List Frame) (meth : Method) (c : Code) (cells slots : Nat) (Q : Qt) (Z : State → Prop) : Prop :=
  ∀ (r : Option Value) (M : Mm) (L : Ml) (H : Heap) (locs : List Loc) (pc : Nat) (arr : Array Slot), Q r M L → hpOk w M L s H → va_S (frA w) s.heap H locs → rAt n pc r → W p l e R s m args below meth c H locs cells slots Z (F0 m pc arr (r.toList.map (up w)))
def Runs (n d : Nat) (Q : Qt) (pc : Nat) (ls : Lc) (st : List Value) (M : Mm) (L : Ml) : Prop :=
  ∀ (w : Wc) (p : Program) (l : Launch) (e : Env) (R : Room) (s : State) (m : MethodId) (args : Array Value) (below : List Frame) (meth : Method) (c : Code) (H : Heap) (locs : List Loc) (cells slots : Nat) (Z : State → Prop) (arr : Array Slot),
    Act n d w p R s m args c → cells ≤ R.cells ∧ slots ≤ R.slots → hpOk w M L s H → va_S (frA w) s.heap H locs → lv_has arr (mL n) (lsA w 0 ls) → RetOK n w p l e R s m args below meth c cells slots Q Z →
    W p l e R s m args below meth c H locs cells slots Z (F0 m pc arr (st.map (up w)))
def gPc (w : Wc) (as : List Value) (M : Mm) (L : Ml) : Array Value → State → Prop := fun v U => v = (as.map (up w)).toArray ∧ hpOk w M L U U.heap ∧ va_K w.2.1 vwCl (tyW w) U ∧ nwOk U ∧ ¬ frA w (w.1 1000)
def gQc (w : Wc) (Q : Qt) : Array Value → State → Outcome → State → Prop := fun _ st o t => (∃ r M L, o = .returned (r.map (up w)) ∧ Q r M L ∧ hpOk w M L t t.heap) ∧ va_F (frA w) st t
def Good (d n : Nat) (as : List Value) (M : Mm) (L : Ml) (Q : Qt) : Prop := ∀ (l : Launch) (w : Wc), wOk w → Met l (mN n) (mW n) (rmD d) (gPc w as M L) (gQc w Q) 0 0 (frA w)
def CallOk (d : Nat) : Ct := fun n as M L Q => ∃ d', d' < d ∧ Good d' n as M L Q
/-! locals -/
theorem lsA_mem {w : Wc} : ∀ {ls : Lc} {i : Nat} {v : Value} (j : Nat), lg ls i = some v → (j + i, up w v) ∈ lsA w j ls
  | [], _, _, _, h => by cases h
  | none :: t, 0, _, _, h => by cases h
  | some u :: t, 0, _, j, h => by cases h; exact List.mem_cons_self
  | none :: t, i + 1, v, j, h => by
    have := lsA_mem (w := w) (ls := t) (i := i) (v := v) (j + 1) h
    rw [show j + 1 + i = j + (i + 1) by omega] at this
    exact this
  | some u :: t, i + 1, v, j, h => by
    have := lsA_mem (w := w) (ls := t) (i := i) (v := v) (j + 1) h
    rw [show j + 1 + i = j + (i + 1) by omega] at this
    exact List.mem_cons_of_mem _ this
theorem lsA_ge {w : Wc} : ∀ {ls : Lc} {j : Nat} {q : Nat × Value}, q ∈ lsA w j ls → j ≤ q.1
  | [], _, _, h => by cases h
  | none :: t, j, q, h => by have := lsA_ge (w := w) (ls := t) h; omega
  | some u :: t, j, q, h => by
    rcases List.mem_cons.mp h with rfl | h
    · exact Nat.le_refl _
    · have := lsA_ge (w := w) (ls := t) h; omega
theorem up_cat (w : Wc) (v : Value) : (up w v).category = v.category := by cases v <;> rfl
theorem lsA_head {w : Wc} {a : Option Value} {t : Lc} {j : Nat} {q : Nat × Value} (h : q ∈ lsA w j (a :: t)) : (∃ v, a = some v ∧ q = (j, up w v)) ∨ q ∈ lsA w (j + 1) t := by
  cases a with
  | none => exact Or.inr h
  | some v =>
    rcases List.mem_cons.mp h with rfl | h
    · exact Or.inl ⟨v, rfl, rfl⟩
    · exact Or.inr h
theorem lsA_cons {w : Wc} {a : Option Value} {t : Lc} {j : Nat} {q : Nat × Value} (h : (∃ v, a = some v ∧ q = (j, up w v)) ∨ q ∈ lsA w (j + 1) t) : q ∈ lsA w j (a :: t) := by
  cases a with
  | none =>
    rcases h with ⟨v, h, -⟩ | h
    · cases h
    · exact h
  | some v =>
    rcases h with ⟨v', h, rfl⟩ | h
    · cases h; exact List.mem_cons_self
    · exact List.mem_cons_of_mem _ h

theorem ls1_mem {w : Wc} {v : Value} : ∀ {ls : Lc} {i j : Nat} {q : Nat × Value}, q ∈ lsA w j (ls1 ls i v) → q = (j + i, up w v) ∨ (q ∈ lsA w j ls ∧ q.1 ≠ j + i ∧ ¬ (q.1 + 1 = j + i ∧ q.2.category = 2))
  | [], i, j, q, h => by cases h
  | a :: t, 0, j, q, h => by
    rcases lsA_head h with ⟨v', e, rfl⟩ | h
    · cases e; exact Or.inl rfl
    · have := lsA_ge h
      exact Or.inr ⟨lsA_cons (Or.inr h), by omega, by omega⟩
  | a :: t, 1, j, q, h => by
    rcases lsA_head h with ⟨v', e, rfl⟩ | h
    · cases a with
      | none => cases e
      | some u =>
        cases u <;> first | (cases e; done) | (cases e; exact Or.inr ⟨lsA_cons (Or.inl ⟨_, rfl, rfl⟩), by show j ≠ j + 1; omega, fun z => by have hx := z.2; simp [up, Value.category] at hx⟩)
    · rcases ls1_mem (ls := t) (i := 0) (j := j + 1) h with h | ⟨h1, h2, h3⟩
      · exact Or.inl h
      · exact Or.inr ⟨lsA_cons (Or.inr h1), h2, h3⟩
  | a :: t, i + 2, j, q, h => by
    rcases lsA_head h with ⟨v', e, rfl⟩ | h
    · exact Or.inr ⟨lsA_cons (Or.inl ⟨v', e, rfl⟩), by show j ≠ j + (i + 2); omega, by show ¬ (j + 1 = j + (i + 2) ∧ _); omega⟩
    · rcases ls1_mem (ls := t) (i := i + 1) (j := j + 1) h with h | ⟨h1, h2, h3⟩
      · exact Or.inl (by rw [h, show j + 1 + (i + 1) = j + (i + 2) by omega])
      · rw [show j + 1 + (i + 1) = j + (i + 2) by omega] at h2 h3
        exact Or.inr ⟨lsA_cons (Or.inr h1), h2, h3⟩
theorem ls2_mem {w : Wc} {v : Value} : ∀ {ls : Lc} {i j : Nat} {q : Nat × Value}, q ∈ lsA w j (ls2 ls i v) → q = (j + i, up w v) ∨ (q ∈ lsA w j ls ∧ q.1 ≠ j + i ∧ q.1 ≠ j + i + 1 ∧ ¬ (q.1 + 1 = j + i ∧ q.2.category = 2))
  | [], i, j, q, h => by cases i <;> cases h
  | a :: t, 0, j, q, h => by
    rcases lsA_head h with ⟨v', e, rfl⟩ | h
    · cases e; exact Or.inl rfl
    · cases t with
      | nil => cases h
      | cons b t =>
        rcases lsA_head h with ⟨v', e, rfl⟩ | h
        · cases e
        · have := lsA_ge h
          exact Or.inr ⟨lsA_cons (Or.inr (lsA_cons (Or.inr h))), by omega, by omega, by omega⟩
  | a :: t, 1, j, q, h => by
    rcases lsA_head (show q ∈ lsA w j (lk1 a :: ls2 t 0 v) from h) with ⟨v', e, rfl⟩ | h
    · cases a with
      | none => cases e
      | some u =>
        cases u <;> first | (cases e; done) | (cases e; exact Or.inr ⟨lsA_cons (Or.inl ⟨_, rfl, rfl⟩), by show j ≠ j + 1; omega, by show j ≠ j + 1 + 1; omega, fun z => by have hx := z.2; simp [up, Value.category] at hx⟩)
    · rcases ls2_mem (ls := t) (i := 0) (j := j + 1) h with h | ⟨h1, h2, h3, h4⟩
      · exact Or.inl h
      · exact Or.inr ⟨lsA_cons (Or.inr h1), h2, h3, h4⟩
  | a :: t, i + 2, j, q, h => by
    rcases lsA_head (show q ∈ lsA w j (a :: ls2 t (i + 1) v) from h) with ⟨v', e, rfl⟩ | h
    · exact Or.inr ⟨lsA_cons (Or.inl ⟨v', e, rfl⟩), by show j ≠ j + (i + 2); omega, by show j ≠ j + (i + 2) + 1; omega, by show ¬ (j + 1 = j + (i + 2) ∧ _); omega⟩
    · rcases ls2_mem (ls := t) (i := i + 1) (j := j + 1) h with h | ⟨h1, h2, h3, h4⟩
      · exact Or.inl (by rw [h, show j + 1 + (i + 1) = j + (i + 2) by omega])
      · rw [show j + 1 + (i + 1) = j + (i + 2) by omega] at h2 h3 h4
        exact Or.inr ⟨lsA_cons (Or.inr h1), h2, h3, h4⟩
theorem lv_mono {arr : Array Slot} {nL : Nat} {l l' : List (Nat × Value)} (h : lv_has arr nL l) (hs : ∀ q ∈ l', q ∈ l) : lv_has arr nL l' := ⟨h.1, h.2.1, fun q hq => h.2.2 q (hs q hq)⟩

