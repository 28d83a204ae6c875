/-! a row of rows at once: eight of forty ints -/
/-- the class of rows of rows, over the rows' own -/
def eAA (c9 c12 : ClassId) (U : State) : Prop := ∃ k9 k12 cI, U.vm.classes[c9]? = some k9 ∧ k9.kind = .array cI .int ∧ U.vm.classes[c12]? = some k12 ∧ k12.kind = .array c9 (.array .int) ∧ U.vm.findClass ("[" ++ (FieldType.array .int).toString) = some c12
theorem eAA.mv {c9 c12 : ClassId} {u U : State} (h : u.vm.Alike U.vm) (he : eAA c9 c12 u) : eAA c9 c12 U := by
  obtain ⟨k9, k12, cI, h1, h2, h3, h4, h5⟩ := he
  obtain ⟨k1, a1, b1⟩ := h.2.2 _ _ h1
  obtain ⟨k2, a2, b2⟩ := h.2.2 _ _ h3
  exact ⟨k1, k2, cI, a1, by rw [b1]; exact h2, a2, by rw [b2]; exact h4, by rw [h.findClass]; exact h5⟩
section
variable {E : CtlPost} {e : Env} {d : Bool} {acts : List Action} {s : State}
theorem ma_new {c comp : ClassId} {k : Class} {ty : FieldType} {n : Nat} {v : Value} (hk : s.vm.classes[c]? = some k) (hkd : k.kind = .array comp ty) (h1 : ¬ n > e.platform.arrayLengthLimit) (h2 : ¬ n * componentBytes ty > e.platform.maxHeapBytes) (hf : fits ty v = true) (h3 : s.heap.size < e.platform.maxCells) (h4 : s.slotsUsed + n ≤ e.platform.maxSlots) {Q : Addr → Pre} (hq : ∀ acts, Q s.heap.size d acts (s.pushCell (arrV c n (fun _ => v)))) : (Jvm.newArray c n v).wp Q E e d acts s := by
  have hfit : ∀ (i : Nat) (u : Value), (Array.replicate n v)[i]? = some u → s.fitsSlot c .none i u = true := by
    intro i u hu
    rw [Array.getElem?_replicate] at hu
    split at hu
    · cases hu
      simp [State.fitsSlot, State.slotType?, hk, hkd, hf]
    · cases hu
  have hq' := hq (allocActs (Array.replicate n v) s.heap.size acts)
  rw [← arrV_new] at hq'
  simp only [Jvm.newArray, Jvm.arrayFits, wp_bind', W.ask, W.ite, h1, if_false, wp_pure', W.theClass, hk, hkd, h2, W.alloc, W.stop, Option.some.injEq, exists_eq_left', Array.size_replicate]
  rw [if_neg (by omega)]
  exact ⟨h3, h4, hfit, hq'⟩
end
section
variable {p : Program} {l : Launch} {e : Env} {R : Room} {s : State} {m : MethodId} {args : Array Value} {below : List Frame} {meth : Method} {c : Code} {cells slots : Nat} {A : Nat → Prop}
/-- behind i inner rows -/
def maI (p : Program) (l : Launch) (e : Env) (R : Room) (s : State) (m : MethodId) (args : Array Value) (below : List Frame) (meth : Method) (c : Code) (A : Nat → Prop) (cells slots : Nat) (c9 c12 : ClassId) (H : Heap) (i : Nat) (T : State) : Prop :=
  ∃ lc : List Loc, Stand p l e R s m args below meth c T lc (cells + 1 + i) (slots + 8 + 40 * i) ∧ T.heap.size = H.size + 1 + i ∧ T.heap[H.size]? = some (arrV c12 8 (fun j => va_rf (if j < i then some (H.size + 1 + j) else none))) ∧ (∀ x, x < H.size → T.heap[x]? = H[x]?) ∧ (∀ j, j < i → T.heap[H.size + 1 + j]? = some (arrV c9 40 (fun _ => .int 0))) ∧ ∀ x ∈ lc, A x.base
theorem maI.step {c9 c12 : ClassId} {H : Heap} {i : Nat} {T : State} (hA : A H.size) (h : maI p l e R s m args below meth c A cells slots c9 c12 H i T) :
    maI p l e R s m args below meth c A cells slots c9 c12 H (i + 1) ((T.pushCell (arrV c9 40 (fun _ => .int 0))).setCell H.size ((arrV c12 8 (fun j => va_rf (if j < i then some (H.size + 1 + j) else none))).setSlot i (.ref T.heap.size))) := by
  obtain ⟨lc, X, hz, ho, hold, hin, hlc⟩ := h
  have hlt : H.size < T.heap.size := by omega
  have X1 := X.pushed (arrV c9 40 (fun _ => .int 0))
  generalize hU : T.pushCell (arrV c9 40 (fun _ => .int 0)) = U at X1 ⊢
  have hu : ∀ x, x < T.heap.size → U.heap[x]? = T.heap[x]? := fun x hx => by
    rw [← hU]; exact State.heap_pushCell_of_lt _ _ hx
  have hn : U.heap[T.heap.size]? = some (arrV c9 40 (fun _ => .int 0)) := by
    rw [← hU]; exact State.heap_pushCell_size _ _
  have ho1 : U.heap[H.size]? = some (arrV c12 8 (fun j => va_rf (if j < i then some (H.size + 1 + j) else none))) := (hu _ hlt).trans ho
  have X2 := X1.stored ho1 i (.ref T.heap.size)
  have hz1 : U.heap.size = H.size + 1 + i + 1 := by
    rw [← hU]
    show (T.heap.push _).size = _
    rw [Array.size_push, hz]
  have hlt1 : H.size < U.heap.size := by omega
  rw [arrV_size] at X2
  refine ⟨lc ++ [⟨H.size, i⟩], ?_, ?_, ?_, fun x hx => ?_, fun j hj => ?_, fun x hx => ?_⟩
  · rw [show cells + 1 + (i + 1) = cells + 1 + i + 1 by omega, show slots + 8 + 40 * (i + 1) = slots + 8 + 40 * i + 40 by omega]
    exact X2
  · rw [size_setCell, hz1]; omega
  · rw [heapAt_setCell_self _ hlt1, arrV_store, hz]
    congr 2
    funext j
    show (if j = i then Value.ref (H.size + 1 + i) else va_rf (if j < i then some (H.size + 1 + j) else none)) = _
    by_cases hj : j = i
    · rw [if_pos hj, if_pos (by omega), hj]; rfl
    · rw [if_neg hj]
      by_cases h2 : j < i
      · rw [if_pos h2, if_pos (by omega)]
      · rw [if_neg h2, if_neg (by omega)]
  · have hne : H.size ≠ x := by omega
    rw [heapAt_setCell_ne _ hne, hu x (by omega)]
    exact hold x hx
  · have hne : H.size ≠ H.size + 1 + j := by omega
    rw [heapAt_setCell_ne _ hne]
    by_cases h2 : j < i
    · rw [hu _ (by omega)]
      exact hin j h2
    · rw [show H.size + 1 + j = T.heap.size by omega]
      exact hn
  · rcases List.mem_append.mp hx with h | h
    · exact hlc x h
    · rw [List.mem_singleton.mp h]; exact hA
def maT (c9 c12 : ClassId) (h : Nat) (T : State) : Nat → State
  | 0 => T
  | i + 1 => ((maT c9 c12 h T i).pushCell (arrV c9 40 (fun _ => .int 0))).setCell h ((arrV c12 8 (fun j => va_rf (if j < i then some (h + 1 + j) else none))).setSlot i (.ref (maT c9 c12 h T i).heap.size))
theorem maT_vm {c9 c12 : ClassId} {h : Nat} {T : State} : ∀ i, (maT c9 c12 h T i).vm = T.vm
  | 0 => rfl
  | i + 1 => maT_vm i
theorem maT_I {c9 c12 : ClassId} {H : Heap} {T : State} (hA : A H.size) (h : maI p l e R s m args below meth c A cells slots c9 c12 H 0 T) : ∀ i, maI p l e R s m args below meth c A cells slots c9 c12 H i (maT c9 c12 H.size T i)
  | 0 => h
  | i + 1 => (maT_I hA h i).step hA
theorem ma_loop {E : CtlPost} {c9 c12 cI : ClassId} {k9 k12 : Class} {H : Heap} {f : JFrame} {T : State} (hA : A H.size) (h9 : T.vm.classes[c9]? = some k9) (k9k : k9.kind = .array cI .int) (h12 : T.vm.classes[c12]? = some k12) (k12k : k12.kind = .array c9 (.array .int)) (hR : cells + 9 ≤ R.cells ∧ slots + 328 ≤ R.slots) (h0 : maI p l e R s m args below meth c A cells slots c9 c12 H 0 T) {Q : PUnit → Pre}
    (hq : ∀ (d : Bool) (acts : List Action), Q PUnit.unit d acts ((maT c9 c12 H.size T 8).setTop f)) :
    ∀ (n i : Nat) (d : Bool) (acts : List Action), i + n = 8 → (forIn (List.range' i n) PUnit.unit (fun i (_ : PUnit) => do let x ← Op.multianewarray.make c9 [nI 40]; Jvm.writeLoc H.size i (.ref x); Pure.pure (ForInStep.yield PUnit.unit)) : Sem PUnit).wp Q E e d acts ((maT c9 c12 H.size T i).setTop f) := by
  intro n
  induction n with
  | zero =>
    intro i d acts hi
    have h8 : i = 8 := by omega
    subst h8
    simp only [List.range'_zero, List.forIn_nil, wp_pure']
    exact hq d acts
  | succ n ih =>
    intro i d acts hi
    have hv : (maT c9 c12 H.size T i).vm = T.vm := maT_vm i
    obtain ⟨lc, X, hz, ho, hold, hin, hlc⟩ := maT_I hA h0 i
    obtain ⟨r1, r2⟩ := X.roomAbove (a := 1) (b := 40) (by omega) (by omega)
    rw [List.range'_succ]
    simp only [List.forIn_cons, wp_bind']
    rw [Op.multianewarray.make]
    simp only [wp_bind', W.ite, show ¬ (nI 40 < 0) from by decide, if_false, wp_pure', W.theClass, State.vm_setTop, hv, h9, k9k, Option.some.injEq, exists_eq_left']
    refine ma_new (k := k9) (comp := cI) (ty := .int) (by rw [State.vm_setTop, hv]; exact h9) k9k ?_ ?_ rfl ?_ ?_ (fun acts => ?_)
    · rw [Launch.admits_arrayLengthLimit X.admits]; decide
    · rw [Launch.admits_maxHeapBytes X.admits]; decide
    · show (maT c9 c12 H.size T i).heap.size < _; omega
    · show (maT c9 c12 H.size T i).slotsUsed + 40 ≤ _; exact r2
    · simp only [wp_bind', W.writeLoc, wp_pure']
      refine ⟨arrV c12 8 (fun j => va_rf (if j < i then some (H.size + 1 + j) else none)), ?_, (fun h => by cases h), by rw [arrV_size]; omega, ?_, ?_⟩
      · show ((maT c9 c12 H.size T i).pushCell _).heap[H.size]? = _
        exact (State.heap_pushCell_of_lt _ _ (show H.size < (maT c9 c12 H.size T i).heap.size by omega)).trans ho
      · show State.fitsSlot _ c12 .none i _ = true
        simp [State.fitsSlot, State.slotType?, hv, h12, k12k, fits]
      · exact ih (i + 1) true _ (by omega)
end
theorem dApp {A : Nat → Prop} {D : va_G} {cl : List vw_C} {X w2 : va_W} {H : Heap} (hD : va_D A X) (hP : va_P D cl X H) (h1 : ∀ (i j : Nat) (x y : Nat × va_E), w2[i]? = some x → w2[j]? = some y → x.1 = y.1 → i = j) (h2 : ∀ (k : Nat) (x : Nat × va_E), w2[k]? = some x → H.size ≤ x.1 ∧ A x.1) : va_D A (X ++ w2) := by
  refine ⟨fun i j x y hx hy hxy => ?_, fun k x hx => ?_⟩
  · by_cases a : i < X.length
    · rw [List.getElem?_append_left a] at hx
      by_cases b : j < X.length
      · rw [List.getElem?_append_left b] at hy
        exact hD.1 i j x y hx hy hxy
      · rw [List.getElem?_append_right (by omega)] at hy
        have := (hP i x hx).lt
        have := (h2 _ y hy).1
        omega
    · rw [List.getElem?_append_right (by omega)] at hx
      by_cases b : j < X.length
      · rw [List.getElem?_append_left b] at hy
        have := (hP j y hy).lt
        have := (h2 _ x hx).1
        omega
      · rw [List.getElem?_append_right (by omega)] at hy
        have := h1 _ _ x y hx hy hxy
        omega
  · by_cases a : k < X.length
    · rw [List.getElem?_append_left a] at hx
      exact hD.2 k x hx
    · rw [List.getElem?_append_right (by omega)] at hx
      exact (h2 _ x hx).2
def rowsW (c9 c12 : ClassId) (q : Nat) : va_W := [(q, .inl (c12, 8, .inr (.inr (.inr (.inr (fun j => if j < 8 then some (q + 1 + j) else none)))))), (q + 1, zr c9 40), (q + 2, zr c9 40), (q + 3, zr c9 40), (q + 4, zr c9 40), (q + 5, zr c9 40), (q + 6, zr c9 40), (q + 7, zr c9 40), (q + 8, zr c9 40)]
theorem rowsW_at {c9 c12 : ClassId} {q : Nat} : ∀ (k : Nat) (x : Nat × va_E), (rowsW c9 c12 q)[k]? = some x → (k = 0 ∧ x = (q, .inl (c12, 8, .inr (.inr (.inr (.inr (fun j => if j < 8 then some (q + 1 + j) else none))))))) ∨ ∃ j, j < 8 ∧ k = j + 1 ∧ x = (q + 1 + j, zr c9 40) := by
  intro k x hx
  have hk : k < 9 := (List.getElem?_eq_some_iff.mp hx).1
  rcases (show k = 0 ∨ k = 1 ∨ k = 2 ∨ k = 3 ∨ k = 4 ∨ k = 5 ∨ k = 6 ∨ k = 7 ∨ k = 8 by omega) with rfl | rfl | rfl | rfl | rfl | rfl | rfl | rfl | rfl
  · cases hx; exact Or.inl ⟨rfl, rfl⟩
  · cases hx; exact Or.inr ⟨0, by omega, rfl, rfl⟩
  · cases hx; exact Or.inr ⟨1, by omega, rfl, rfl⟩
  · cases hx; exact Or.inr ⟨2, by omega, rfl, rfl⟩
  · cases hx; exact Or.inr ⟨3, by omega, rfl, rfl⟩
  · cases hx; exact Or.inr ⟨4, by omega, rfl, rfl⟩
  · cases hx; exact Or.inr ⟨5, by omega, rfl, rfl⟩
  · cases hx; exact Or.inr ⟨6, by omega, rfl, rfl⟩
  · cases hx; exact Or.inr ⟨7, by omega, rfl, rfl⟩
section
variable {p : Program} {l : Launch} {e : Env} {R : Room} {s : State} {m : MethodId} {args : Array Value} {below : List Frame} {meth : Method} {c : Code} {H : Heap} {locs : List Loc} {cells slots : Nat} {Q : State → Prop}
variable {cc : ByteArray} {pc : Nat} {ls : Array Slot} {rest : List Value} {D : va_G} {cl : List vw_C} {A : Nat → Prop} {ws : va_W} {H0 : Heap}
set_option maxHeartbeats 4000000 in
theorem nMA (hexec : p.tables.exec = Jvm.exec) (hb : c.code = cc) (hown : s.vm.findClass RX3 = some m.cls) (hclink : (Cond.classLink RX3 11 "[[I").before args s = true) {c9 c12 : ClassId} (hAA : eAA c9 c12 s) (hP : va_P D cl ws H) (hD : va_D A ws) (hS : va_S A H0 H locs) (hA : ∀ q, H0.size ≤ q → A q) (hcells : cells + 9 ≤ R.cells) (hslots : slots + 328 ≤ R.slots) (hdg : decode cc pc = .ok (.multianewarray 11 2, 4))
    (kk : ∀ (q : Nat) (H1 : Heap) (locs1 : List Loc), va_P D cl (ws ++ rowsW c9 c12 q) H1 → va_D A (ws ++ rowsW c9 c12 q) → va_S A H0 H1 locs1 → W p l e R s m args below meth c H1 locs1 (cells + 9) (slots + 328) Q (F0 m (pc + 4) ls (.ref q :: rest))) : W p l e R s m args below meth c H locs cells slots Q (F0 m pc ls (.int (nI 40) :: .int (nI 8) :: rest)) := by
  intro T hT X
  subst hT; subst hb
  obtain ⟨k9, k12, cI, h9, k9k, h12, k12k, hn⟩ := hAA
  have hpl : e.platform.magicAccessors = ({} : Platform).magicAccessors := by rw [X.admits.platform]
  obtain ⟨c0, hfc, hcl⟩ := Cond.classLink_spec hown hclink e.platform hpl
  have hc0 : c12 = c0 := Option.some.inj (hn.symm.trans hfc)
  subst hc0
  obtain ⟨hg₁, hwarm₁, hready₁⟩ := State.classEntry (e := e) X.warmed hcl
  generalize T.vm.noted m.cls 11 (.cls c12) = vm₁ at hg₁ hwarm₁ hready₁
  have hal : s.vm.Alike vm₁ := hwarm₁.alike
  obtain ⟨k9', h9', e9⟩ := hal.2.2 _ _ h9
  obtain ⟨k12', h12', e12⟩ := hal.2.2 _ _ h12
  have k9k' : k9'.kind = .array cI .int := by rw [e9]; exact k9k
  have k12k' : k12'.kind = .array c9 (.array .int) := by rw [e12]; exact k12k
  have X₁ := X.noted hwarm₁
  have hAs : A T.heap.size := hA _ hS.1
  obtain ⟨hr1, hr2⟩ := X.roomAbove (a := 9) (b := 328) hcells hslots
  have X₂ := X₁.pushed (arrV c12 8 (fun _ => .null))
  generalize hT1 : (T.setVm vm₁).pushCell (arrV c12 8 (fun _ => .null)) = T1 at X₂
  have h0 : maI p l e R s m args below meth c A cells slots c9 c12 T.heap 0 T1 := by
    refine ⟨locs, by rw [arrV_size] at X₂; exact X₂, ?_, ?_, fun x hx => ?_, fun j hj => absurd hj (by omega), hS.2.2⟩
    · rw [← hT1]; show (T.heap.push _).size = _; rw [Array.size_push]
    · rw [← hT1]
      show (T.heap.push _)[T.heap.size]? = _
      rw [Array.getElem?_push_size]
      rfl
    · rw [← hT1]
      show (T.heap.push _)[x]? = _
      rw [Array.getElem?_push, if_neg (Nat.ne_of_lt hx)]
  have hv1 : T1.vm = vm₁ := by rw [← hT1]; rfl
  obtain ⟨lc, X8, hz, ho, hold, hin, hlc⟩ := maT_I hAs h0 8
  have hk : ∀ (k : Nat) (x : Nat × va_E), ws[k]? = some x → (maT c9 c12 T.heap.size T1 8).heap[x.1]? = T.heap[x.1]? := fun k x hx => hold x.1 ((hP k x hx).lt)
  have hP1 : va_P D cl (ws ++ rowsW c9 c12 T.heap.size) (maT c9 c12 T.heap.size T1 8).heap := (hP.kept hk).app (fun k x hx => by
    rcases rowsW_at k x hx with ⟨-, rfl⟩ | ⟨j, hj, -, rfl⟩
    · show _ = some (vp_cell _ _)
      rw [vp_cell_q]
      exact ho
    · exact hin j hj)
  have hD1 : va_D A (ws ++ rowsW c9 c12 T.heap.size) := dApp hD hP (fun i j x y hx hy hxy => by
    rcases rowsW_at i x hx with ⟨rfl, rfl⟩ | ⟨i', hi, rfl, rfl⟩ <;> rcases rowsW_at j y hy with ⟨rfl, rfl⟩ | ⟨j', hj, rfl, rfl⟩
    · rfl
    · exact absurd hxy (by show ¬ T.heap.size = T.heap.size + 1 + j'; omega)
    · exact absurd hxy (by show ¬ T.heap.size + 1 + i' = T.heap.size; omega)
    · have hxy : T.heap.size + 1 + i' = T.heap.size + 1 + j' := hxy
      omega) (fun k x hx => by
    rcases rowsW_at k x hx with ⟨-, rfl⟩ | ⟨j, hj, -, rfl⟩
    · exact ⟨Nat.le_refl _, hAs⟩
    · exact ⟨by show T.heap.size ≤ T.heap.size + 1 + j; omega, hA _ (Nat.le_trans hS.1 (by omega))⟩)
  have X8 : Stand p l e R s m args below meth c (maT c9 c12 T.heap.size T1 8) lc (cells + 9) (slots + 328) := X8
  obtain ⟨t', a1, b1⟩ := kk T.heap.size (maT c9 c12 T.heap.size T1 8).heap lc hP1 hD1 ⟨Nat.le_trans hS.1 (by omega), fun x h1 h2 => (hold x (Nat.lt_of_lt_of_le h1 hS.1)).trans (hS.2.1 x h1 h2), hlc⟩ (maT c9 c12 T.heap.size T1 8) rfl X8
  refine ⟨t', ?_, b1⟩
  · skip
    jvm_step X.here [hexec, hdg]
    simp only [Op.multianewarray.sem, wp_bind', W.resolveClassAt_links (t := T.setTop (F0 m pc ls (.int (nI 40) :: .int (nI 8) :: rest))) (mm := m) (State.method?_setTop (F0 m pc ls (.int (nI 40) :: .int (nI 8) :: rest)) X.here.top) hg₁]
    rw [W.popN, if_neg (by decide)]
    refine ⟨_, State.topJava?_setTop' (s := T.setVm vm₁) (F0 m pc ls (.int (nI 40) :: .int (nI 8) :: rest)) X.here.top, [.int (nI 8), .int (nI 40)], rest, rfl, rfl, ?_⟩
    simp only [List.mapM_cons, List.mapM_nil, wp_bind', wp_pure']
    have eS : ((T.setTop (F0 m pc ls (.int (nI 40) :: .int (nI 8) :: rest))).setVm vm₁).setTop (F0 m pc ls rest) = (T.setVm vm₁).setTop (F0 m pc ls rest) := by
      show ((T.setVm vm₁).setTop _).setTop _ = _
      rw [State.setTop_setTop]
    have hc12 : ((T.setVm vm₁).setTop (F0 m pc ls rest)).vm.classes[c12]? = some k12' := h12'
    refine Eq.mpr (congrArg _ eS) ?_
    rw [Op.multianewarray.make]
    simp only [wp_bind', W.ite, show ¬ (nI 8 < 0) from by decide, if_false, wp_pure', W.theClass, hc12, k12k', Option.some.injEq, exists_eq_left']
    refine ma_new (k := k12') (comp := c9) (ty := .array .int) hc12 k12k' ?_ ?_ rfl ?_ ?_ (fun acts => ?_)
    · rw [Launch.admits_arrayLengthLimit X.admits]; decide
    · rw [Launch.admits_maxHeapBytes X.admits]; decide
    · show T.heap.size < _; omega
    · show T.slotsUsed + 8 ≤ _; omega
    · have hn8 : (nI 8).toNatClampNeg = 8 := nI_clamp (by decide)
      have eT : (((T.setVm vm₁).setTop (F0 m pc ls rest)).pushCell (arrV c12 (nI 8).toNatClampNeg fun _ => Value.null)) = (maT c9 c12 T.heap.size T1 0).setTop (F0 m pc ls rest) := by
        rw [← hT1, hn8]; rfl
      rw [eT, if_neg (by decide), wp_bind', Std.Legacy.Range.forIn_eq_forIn_range', hn8]
      refine ma_loop (H := T.heap) (T := T1) (f := F0 m pc ls rest) hAs (by rw [hv1]; exact h9') k9k' (by rw [hv1]; exact h12') k12k' ⟨hcells, hslots⟩ h0 (fun d acts => ?_) 8 0 true acts rfl
      simp only [wp_pure', wp_bind', W.mark, W.pushRef, State.topJava?_setTop' _ X8.here.top, Option.some.injEq, exists_eq_left', State.setTop_setTop, State.heap_setTop]
      intro acts
      simp [jvm, X8.here.top]
      exact a1
end
