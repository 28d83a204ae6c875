/-! the array classes, out of the tables' words -/
theorem tyP {ty : FieldType} (hty : ty = .int ∨ ty = .byte ∨ ty = .boolean) {args : Array Value} {s : State} (h : (Cond.arrayClass ty).before args s = true) : ∃ c, s.vm.findClass ("[" ++ ty.toString) = some c ∧ ArrOfT s c ty ∧ va_RA s c ty := by
  obtain ⟨c, k, comp, h1, h2, h3⟩ := Cond.arrayClass_spec h
  refine ⟨c, h1, fun n z => ⟨fun k h => (by cases h), k, h2, comp, h3⟩, ?_⟩
  rcases hty with rfl | rfl | rfl <;> exact h1
theorem tyO {C : String} {args : Array Value} {s : State} (h : (Cond.arrayOver (.object C)).before args s = true) : ∃ c, s.vm.findClass ("[" ++ (FieldType.object C).toString) = some c ∧ ArrOfT s c (.object C) ∧ va_RA s c (.object C) := by
  obtain ⟨comp, c, k, h1, h2, h3, h4, h5⟩ := Cond.arrayOver_spec h
  exact ⟨c, h5, fun n z => ⟨fun k h => (by cases h), k, h3, comp, h4⟩, k, comp, h3, h4, h1, h5⟩
theorem tyAA {args : Array Value} {s : State} (h : (Cond.arrayOver (.array .int)).before args s = true) : ∃ c, s.vm.findClass ("[" ++ (FieldType.array .int).toString) = some c ∧ ArrOfT s c (.array .int) ∧ va_RA s c (.array .int) := by
  obtain ⟨comp, c, k, h1, h2, h3, h4, h5⟩ := arrayOverA_spec h
  exact ⟨c, h5, fun n z => ⟨fun k h => (by cases h), k, h3, comp, h4⟩, h5⟩
/-- all five, and the eight classes -/
theorem tyAll {args : Array Value} {s : State} (hts : ∀ w ∈ lw_tbl, w.before args s = true) : ∃ (D : va_G) (k : Nat → ClassId), va_K D vwCl [(k 8, .byte), (k 9, .int), (k 10, .boolean), (k 11, .object "WinkCircle$Circle"), (k 12, .array .int)] s := by
  obtain ⟨c8, _, a8, b8⟩ := tyP (Or.inr (Or.inl rfl)) (hts (.arrayClass .byte) (List.mem_of_getElem? (i := 928) (by decide +kernel)))
  obtain ⟨c9, _, a9, b9⟩ := tyP (Or.inl rfl) (hts (.arrayClass .int) (List.mem_of_getElem? (i := 92) (by decide +kernel)))
  obtain ⟨c10, _, a10, b10⟩ := tyP (Or.inr (Or.inr rfl)) (hts (.arrayClass .boolean) (List.mem_of_getElem? (i := 927) (by decide +kernel)))
  obtain ⟨c11, _, a11, b11⟩ := tyO (hts (.arrayOver (.object "WinkCircle$Circle")) (List.mem_of_getElem? (i := 189) (by decide +kernel)))
  obtain ⟨c12, _, a12, b12⟩ := tyAA (hts (.arrayOver (.array .int)) (List.mem_of_getElem? (i := 81) (by decide +kernel)))
  have kn : ∀ ci, ci < 8 → ∃ (cC : ClassId) (iS : Nat → Nat), ∀ q, vwCl[ci]? = some q → u_Kn s q.1 q.2.1 q.2.2 cC iS := by
    intro ci hci
    obtain ⟨C, g1, g2, g3, -, -⟩ := cls_ok ci hci
    have hin : Cond.instantiable (cn ci) (nf ci) ∈ lw_tbl := by
      have : ∀ ci, ci < 8 → Cond.instantiable (cn ci) (nf ci) ∈ lw_tbl := fun ci h => by
        rcases (show ci = 0 ∨ ci = 1 ∨ ci = 2 ∨ ci = 3 ∨ ci = 4 ∨ ci = 5 ∨ ci = 6 ∨ ci = 7 by omega) with rfl | rfl | rfl | rfl | rfl | rfl | rfl | rfl
        · exact List.mem_of_getElem? (i := 183) (by decide +kernel)
        · exact List.mem_of_getElem? (i := 247) (by decide +kernel)
        · exact List.mem_of_getElem? (i := 113) (by decide +kernel)
        · exact List.mem_of_getElem? (i := 75) (by decide +kernel)
        · exact List.mem_of_getElem? (i := 202) (by decide +kernel)
        · exact List.mem_of_getElem? (i := 94) (by decide +kernel)
        · exact List.mem_of_getElem? (i := 67) (by decide +kernel)
        · exact List.mem_of_getElem? (i := 849) (by decide +kernel)
      exact this ci hci
    rw [← g2] at hin
    obtain ⟨cC, iS, hk⟩ := u_known (C := C) (T := vwT ci) (N := nf ci) (n := nf ci) hts g3 (hts _ hin)
    exact ⟨cC, iS, fun q hq => by rw [g1] at hq; cases hq; exact hk⟩
  refine ⟨(fun ci => if h : ci < 8 then (kn ci h).choose else 0, fun ci => if h : ci < 8 then (kn ci h).choose_spec.choose else fun _ => 0), fun i => if i = 8 then c8 else if i = 9 then c9 else if i = 10 then c10 else if i = 11 then c11 else c12, ?_, ?_⟩
  · intro ci q hq
    have h8 : ci < 8 := (List.getElem?_eq_some_iff.mp hq).1
    have := (kn ci h8).choose_spec.choose_spec q hq
    simp only [dif_pos h8]
    exact this
  · intro i q hq
    have h5 : i < 5 := (List.getElem?_eq_some_iff.mp hq).1
    rcases (show i = 0 ∨ i = 1 ∨ i = 2 ∨ i = 3 ∨ i = 4 by omega) with rfl | rfl | rfl | rfl | rfl
    · cases hq; exact ⟨a8, b8⟩
    · cases hq; exact ⟨a9, b9⟩
    · cases hq; exact ⟨a10, b10⟩
    · cases hq; exact ⟨a11, b11⟩
    · cases hq; exact ⟨a12, b12⟩
