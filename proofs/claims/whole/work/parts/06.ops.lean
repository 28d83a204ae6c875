section
variable {n d pc : Nat} {Q : Qt} {ls : Lc} {st : List Value} {M : Mm} {L : Ml}
theorem r_iadd {x y : Int32} (hd : decode (mC n) pc = .ok (.iadd, 1)) (k : Runs n d Q (pc + 1) ls (.int (x + y) :: st) M L) : Runs n d Q pc ls (.int y :: .int x :: st) M L := by
  intro w p l e R s m args below meth c H locs cells slots Z arr a hc hp hs hl hr
  exact lv_iadd a.1 a.2.1 hd (k w p l e R s m args below meth c H locs cells slots Z arr a hc hp hs hl hr)
theorem r_isub {x y : Int32} (hd : decode (mC n) pc = .ok (.isub, 1)) (k : Runs n d Q (pc + 1) ls (.int (x - y) :: st) M L) : Runs n d Q pc ls (.int y :: .int x :: st) M L := by
  intro w p l e R s m args below meth c H locs cells slots Z arr a hc hp hs hl hr
  exact lv_isub a.1 a.2.1 hd (k w p l e R s m args below meth c H locs cells slots Z arr a hc hp hs hl hr)
theorem r_imul {x y : Int32} (hd : decode (mC n) pc = .ok (.imul, 1)) (k : Runs n d Q (pc + 1) ls (.int (x * y) :: st) M L) : Runs n d Q pc ls (.int y :: .int x :: st) M L := by
  intro w p l e R s m args below meth c H locs cells slots Z arr a hc hp hs hl hr
  exact lv_imul a.1 a.2.1 hd (k w p l e R s m args below meth c H locs cells slots Z arr a hc hp hs hl hr)
theorem r_iand {x y : Int32} (hd : decode (mC n) pc = .ok (.iand, 1)) (k : Runs n d Q (pc + 1) ls (.int (x &&& y) :: st) M L) : Runs n d Q pc ls (.int y :: .int x :: st) M L := by
  intro w p l e R s m args below meth c H locs cells slots Z arr a hc hp hs hl hr
  exact lv_iand a.1 a.2.1 hd (k w p l e R s m args below meth c H locs cells slots Z arr a hc hp hs hl hr)
theorem r_ior {x y : Int32} (hd : decode (mC n) pc = .ok (.ior, 1)) (k : Runs n d Q (pc + 1) ls (.int (x ||| y) :: st) M L) : Runs n d Q pc ls (.int y :: .int x :: st) M L := by
  intro w p l e R s m args below meth c H locs cells slots Z arr a hc hp hs hl hr
  exact lv_ior a.1 a.2.1 hd (k w p l e R s m args below meth c H locs cells slots Z arr a hc hp hs hl hr)
theorem r_ixor {x y : Int32} (hd : decode (mC n) pc = .ok (.ixor, 1)) (k : Runs n d Q (pc + 1) ls (.int (x ^^^ y) :: st) M L) : Runs n d Q pc ls (.int y :: .int x :: st) M L := by
  intro w p l e R s m args below meth c H locs cells slots Z arr a hc hp hs hl hr
  exact lv_ixor a.1 a.2.1 hd (k w p l e R s m args below meth c H locs cells slots Z arr a hc hp hs hl hr)
theorem r_ishl {x y : Int32} (hd : decode (mC n) pc = .ok (.ishl, 1)) (k : Runs n d Q (pc + 1) ls (.int (x <<< (y &&& 31)) :: st) M L) : Runs n d Q pc ls (.int y :: .int x :: st) M L := by
  intro w p l e R s m args below meth c H locs cells slots Z arr a hc hp hs hl hr
  exact lv_ishl a.1 a.2.1 hd (k w p l e R s m args below meth c H locs cells slots Z arr a hc hp hs hl hr)
theorem r_ishr {x y : Int32} (hd : decode (mC n) pc = .ok (.ishr, 1)) (k : Runs n d Q (pc + 1) ls (.int (x >>> (y &&& 31)) :: st) M L) : Runs n d Q pc ls (.int y :: .int x :: st) M L := by
  intro w p l e R s m args below meth c H locs cells slots Z arr a hc hp hs hl hr
  exact lv_ishr a.1 a.2.1 hd (k w p l e R s m args below meth c H locs cells slots Z arr a hc hp hs hl hr)
theorem r_idiv {x y : Int32} (hd : decode (mC n) pc = .ok (.idiv, 1)) (h0 : ¬ y = 0) (k : Runs n d Q (pc + 1) ls (.int (x / y) :: st) M L) : Runs n d Q pc ls (.int y :: .int x :: st) M L := by
  intro w p l e R s m args below meth c H locs cells slots Z arr a hc hp hs hl hr
  exact lv_idiv a.1 a.2.1 hd h0 (k w p l e R s m args below meth c H locs cells slots Z arr a hc hp hs hl hr)
theorem r_irem {x y : Int32} (hd : decode (mC n) pc = .ok (.irem, 1)) (h0 : ¬ y = 0) (k : Runs n d Q (pc + 1) ls (.int (x - x / y * y) :: st) M L) : Runs n d Q pc ls (.int y :: .int x :: st) M L := by
  intro w p l e R s m args below meth c H locs cells slots Z arr a hc hp hs hl hr
  exact lv_irem a.1 a.2.1 hd h0 (k w p l e R s m args below meth c H locs cells slots Z arr a hc hp hs hl hr)
theorem r_ineg {x : Int32} (hd : decode (mC n) pc = .ok (.ineg, 1)) (k : Runs n d Q (pc + 1) ls (.int (-x) :: st) M L) : Runs n d Q pc ls (.int x :: st) M L := by
  intro w p l e R s m args below meth c H locs cells slots Z arr a hc hp hs hl hr
  exact lv_ineg a.1 a.2.1 hd (k w p l e R s m args below meth c H locs cells slots Z arr a hc hp hs hl hr)
theorem r_iushr {x y : Int32} (hd : decode (mC n) pc = .ok (.iushr, 1)) (k : Runs n d Q (pc + 1) ls (.int (x.toUInt32 >>> (y.toUInt32 &&& Int32.toUInt32 31)).toInt32 :: st) M L) : Runs n d Q pc ls (.int y :: .int x :: st) M L := by
  intro w p l e R s m args below meth c H locs cells slots Z arr a hc hp hs hl hr
  exact lv_iushr a.1 a.2.1 hd rfl (k w p l e R s m args below meth c H locs cells slots Z arr a hc hp hs hl hr)
theorem r_ladd {x y : Int64} (hd : decode (mC n) pc = .ok (.ladd, 1)) (k : Runs n d Q (pc + 1) ls (.long (x + y) :: st) M L) : Runs n d Q pc ls (.long y :: .long x :: st) M L := by
  intro w p l e R s m args below meth c H locs cells slots Z arr a hc hp hs hl hr
  exact lv_ladd a.1 a.2.1 hd (k w p l e R s m args below meth c H locs cells slots Z arr a hc hp hs hl hr)
theorem r_lsub {x y : Int64} (hd : decode (mC n) pc = .ok (.lsub, 1)) (k : Runs n d Q (pc + 1) ls (.long (x - y) :: st) M L) : Runs n d Q pc ls (.long y :: .long x :: st) M L := by
  intro w p l e R s m args below meth c H locs cells slots Z arr a hc hp hs hl hr
  exact lv_lsub a.1 a.2.1 hd (k w p l e R s m args below meth c H locs cells slots Z arr a hc hp hs hl hr)
theorem r_lmul {x y : Int64} (hd : decode (mC n) pc = .ok (.lmul, 1)) (k : Runs n d Q (pc + 1) ls (.long (x * y) :: st) M L) : Runs n d Q pc ls (.long y :: .long x :: st) M L := by
  intro w p l e R s m args below meth c H locs cells slots Z arr a hc hp hs hl hr
  exact lv_lmul a.1 a.2.1 hd (k w p l e R s m args below meth c H locs cells slots Z arr a hc hp hs hl hr)
theorem r_ldiv {x y : Int64} (hd : decode (mC n) pc = .ok (.ldiv, 1)) (h0 : ¬ y = 0) (k : Runs n d Q (pc + 1) ls (.long (x / y) :: st) M L) : Runs n d Q pc ls (.long y :: .long x :: st) M L := by
  intro w p l e R s m args below meth c H locs cells slots Z arr a hc hp hs hl hr
  exact lv_ldiv a.1 a.2.1 hd h0 (k w p l e R s m args below meth c H locs cells slots Z arr a hc hp hs hl hr)
theorem r_lrem {x y : Int64} (hd : decode (mC n) pc = .ok (.lrem, 1)) (h0 : ¬ y = 0) (k : Runs n d Q (pc + 1) ls (.long (x - x / y * y) :: st) M L) : Runs n d Q pc ls (.long y :: .long x :: st) M L := by
  intro w p l e R s m args below meth c H locs cells slots Z arr a hc hp hs hl hr
  exact lv_lrem a.1 a.2.1 hd h0 (k w p l e R s m args below meth c H locs cells slots Z arr a hc hp hs hl hr)
theorem r_lcmp {x y : Int64} (hd : decode (mC n) pc = .ok (.lcmp, 1)) (k : Runs n d Q (pc + 1) ls (.int (lg_cmp x y) :: st) M L) : Runs n d Q pc ls (.long y :: .long x :: st) M L := by
  intro w p l e R s m args below meth c H locs cells slots Z arr a hc hp hs hl hr
  exact W.lcmp a.1 a.2.1 hd (k w p l e R s m args below meth c H locs cells slots Z arr a hc hp hs hl hr)
theorem r_i2l {x : Int32} (hd : decode (mC n) pc = .ok (.i2l, 1)) (k : Runs n d Q (pc + 1) ls (.long x.toInt64 :: st) M L) : Runs n d Q pc ls (.int x :: st) M L := by
  intro w p l e R s m args below meth c H locs cells slots Z arr a hc hp hs hl hr
  exact lv_i2l a.1 a.2.1 hd rfl (k w p l e R s m args below meth c H locs cells slots Z arr a hc hp hs hl hr)
theorem r_l2i {x : Int64} (hd : decode (mC n) pc = .ok (.l2i, 1)) (k : Runs n d Q (pc + 1) ls (.int x.toInt32 :: st) M L) : Runs n d Q pc ls (.long x :: st) M L := by
  intro w p l e R s m args below meth c H locs cells slots Z arr a hc hp hs hl hr
  exact lv_l2i a.1 a.2.1 hd rfl (k w p l e R s m args below meth c H locs cells slots Z arr a hc hp hs hl hr)
theorem r_i2b {x : Int32} (hd : decode (mC n) pc = .ok (.i2b, 1)) (k : Runs n d Q (pc + 1) ls (.int x.toInt8.toInt32 :: st) M L) : Runs n d Q pc ls (.int x :: st) M L := by
  intro w p l e R s m args below meth c H locs cells slots Z arr a hc hp hs hl hr
  exact lv_i2b a.1 a.2.1 hd rfl (k w p l e R s m args below meth c H locs cells slots Z arr a hc hp hs hl hr)
theorem r_i2s {x : Int32} (hd : decode (mC n) pc = .ok (.i2s, 1)) (k : Runs n d Q (pc + 1) ls (.int x.toInt16.toInt32 :: st) M L) : Runs n d Q pc ls (.int x :: st) M L := by
  intro w p l e R s m args below meth c H locs cells slots Z arr a hc hp hs hl hr
  exact lv_i2s a.1 a.2.1 hd rfl (k w p l e R s m args below meth c H locs cells slots Z arr a hc hp hs hl hr)
theorem r_dup {v : Value} (hd : decode (mC n) pc = .ok (.dup, 1)) (hv : v.category = 1) (k : Runs n d Q (pc + 1) ls (v :: v :: st) M L) : Runs n d Q pc ls (v :: st) M L := by
  intro w p l e R s m args below meth c H locs cells slots Z arr a hc hp hs hl hr
  exact lv_dup a.1 a.2.1 hd (by rw [up_cat]; exact hv) (k w p l e R s m args below meth c H locs cells slots Z arr a hc hp hs hl hr)
theorem r_pop {v : Value} (hd : decode (mC n) pc = .ok (.pop, 1)) (hv : v.category = 1) (k : Runs n d Q (pc + 1) ls (st) M L) : Runs n d Q pc ls (v :: st) M L := by
  intro w p l e R s m args below meth c H locs cells slots Z arr a hc hp hs hl hr
  exact lv_pop a.1 a.2.1 hd (by rw [up_cat]; exact hv) (k w p l e R s m args below meth c H locs cells slots Z arr a hc hp hs hl hr)
theorem r_dup2 {v u : Value} (hd : decode (mC n) pc = .ok (.dup2, 1)) (hv : v.category = 1) (hu : u.category = 1) (k : Runs n d Q (pc + 1) ls (v :: u :: v :: u :: st) M L) : Runs n d Q pc ls (v :: u :: st) M L := by
  intro w p l e R s m args below meth c H locs cells slots Z arr a hc hp hs hl hr
  exact lv_dup2_11 a.1 a.2.1 hd (by rw [up_cat]; exact hv) (by rw [up_cat]; exact hu) (k w p l e R s m args below meth c H locs cells slots Z arr a hc hp hs hl hr)
theorem r_const {v : Int32} {z : Nat} (hd : ∀ p : Program, ∀ (e : Env) (l : Launch) (R : Room) (s : State) (m : MethodId) (args : Array Value) (below : List Frame) (meth : Method) (c : Code) (H : Heap) (locs : List Loc) (cells slots : Nat) (Z : State → Prop) (arr : Array Slot), ∀ rest : List Value, p.tables.exec = Jvm.exec → c.code = mC n → s.vm.findClass (cn (mO n)) = some m.cls → (∀ q ∈ tg, q.before args s = true) → W p l e R s m args below meth c H locs cells slots Z (F0 m (pc + z) arr (.int v :: rest)) → W p l e R s m args below meth c H locs cells slots Z (F0 m pc arr rest)) (k : Runs n d Q (pc + z) ls (.int v :: st) M L) : Runs n d Q pc ls st M L := by
  intro w p l e R s m args below meth c H locs cells slots Z arr a hc hp hs hl hr
  exact hd p e l R s m args below meth c H locs cells slots Z arr _ a.1 a.2.1 a.2.2.2.1 a.2.2.2.2.1 (k w p l e R s m args below meth c H locs cells slots Z arr a hc hp hs hl hr)
theorem r_iconst {v u : Int} (hd : decode (mC n) pc = .ok (.iconst u, 1)) (hv : Int32.ofInt u = Int32.ofInt v) (k : Runs n d Q (pc + 1) ls (.int (Int32.ofInt v) :: st) M L) : Runs n d Q pc ls st M L := by
  intro w p l e R s m args below meth c H locs cells slots Z arr a hc hp hs hl hr
  exact lv_iconst a.1 a.2.1 hd hv (k w p l e R s m args below meth c H locs cells slots Z arr a hc hp hs hl hr)
theorem r_bipush {v u : Int} (hd : decode (mC n) pc = .ok (.bipush u, 2)) (hv : (Int8.ofInt u).toInt32 = Int32.ofInt v) (k : Runs n d Q (pc + 2) ls (.int (Int32.ofInt v) :: st) M L) : Runs n d Q pc ls st M L := by
  intro w p l e R s m args below meth c H locs cells slots Z arr a hc hp hs hl hr
  exact lv_bipush a.1 a.2.1 hd hv (k w p l e R s m args below meth c H locs cells slots Z arr a hc hp hs hl hr)
theorem r_sipush {v u : Int} (hd : decode (mC n) pc = .ok (.sipush u, 3)) (hv : (Int16.ofInt u).toInt32 = Int32.ofInt v) (k : Runs n d Q (pc + 3) ls (.int (Int32.ofInt v) :: st) M L) : Runs n d Q pc ls st M L := by
  intro w p l e R s m args below meth c H locs cells slots Z arr a hc hp hs hl hr
  exact lv_sipush a.1 a.2.1 hd hv (k w p l e R s m args below meth c H locs cells slots Z arr a hc hp hs hl hr)
theorem r_ldc {v : Int32} {x : Nat} (hd : decode (mC n) pc = .ok (.ldc x, 2)) (hw : Cond.constant (cn (mO n)) x v ∈ tg) (k : Runs n d Q (pc + 2) ls (.int v :: st) M L) : Runs n d Q pc ls st M L := by
  intro w p l e R s m args below meth c H locs cells slots Z arr a hc hp hs hl hr
  exact lv_ldc a.1 a.2.1 a.2.2.2.1 (a.2.2.2.2.1 _ hw) hd (k w p l e R s m args below meth c H locs cells slots Z arr a hc hp hs hl hr)
theorem r_ldcw {v : Int32} {x : Nat} (hd : decode (mC n) pc = .ok (.ldc_w x, 3)) (hw : Cond.constant (cn (mO n)) x v ∈ tg) (k : Runs n d Q (pc + 3) ls (.int v :: st) M L) : Runs n d Q pc ls st M L := by
  intro w p l e R s m args below meth c H locs cells slots Z arr a hc hp hs hl hr
  exact lv_ldcw a.1 a.2.1 a.2.2.2.1 (a.2.2.2.2.1 _ hw) hd (k w p l e R s m args below meth c H locs cells slots Z arr a hc hp hs hl hr)
theorem r_lconst {v : Int64} {u : Fin 2} (hd : decode (mC n) pc = .ok (.lconst u, 1)) (hv : Int64.ofNat (u : Nat) = v) (k : Runs n d Q (pc + 1) ls (.long v :: st) M L) : Runs n d Q pc ls st M L := by
  intro w p l e R s m args below meth c H locs cells slots Z arr a hc hp hs hl hr
  exact lv_lconst a.1 a.2.1 hd hv (k w p l e R s m args below meth c H locs cells slots Z arr a hc hp hs hl hr)
theorem r_ldc2 {v : Int64} {x : Nat} (hd : decode (mC n) pc = .ok (.ldc2_w x, 3)) (hw : Cond.constantLong (cn (mO n)) x v ∈ tg) (k : Runs n d Q (pc + 3) ls (.long v :: st) M L) : Runs n d Q pc ls st M L := by
  intro w p l e R s m args below meth c H locs cells slots Z arr a hc hp hs hl hr
  exact lv_ldc2 a.1 a.2.1 a.2.2.2.1 (a.2.2.2.2.1 _ hw) hd (k w p l e R s m args below meth c H locs cells slots Z arr a hc hp hs hl hr)
theorem r_iload {i z : Nat} {x : Int32} {ins : Instr} (hd : decode (mC n) pc = .ok (ins, z)) (hn : n4 ins z i .iload .iload_n = true) (hx : lg ls i = some (.int x)) (k : Runs n d Q (pc + z) ls (.int x :: st) M L) : Runs n d Q pc ls st M L := by
  intro w p l e R s m args below meth c H locs cells slots Z arr a hc hp hs hl hr
  have hv := hl.2.2 _ (lsA_mem (w := w) 0 hx)
  rw [Nat.zero_add] at hv
  have K := k w p l e R s m args below meth c H locs cells slots Z arr a hc hp hs hl hr
  rcases of_decide_eq_true hn with ⟨e1, e2⟩ | ⟨e0, e1, e2⟩
  · subst e1; subst e2
    exact lv_iload a.1 a.2.1 hd hv K
  · subst e1; subst e2
    exact lv_iload_n a.1 a.2.1 hd (Nat.mod_eq_of_lt e0) hv K
theorem r_lload {i z : Nat} {x : Int64} {ins : Instr} (hd : decode (mC n) pc = .ok (ins, z)) (hn : n4 ins z i .lload .lload_n = true) (hx : lg ls i = some (.long x)) (k : Runs n d Q (pc + z) ls (.long x :: st) M L) : Runs n d Q pc ls st M L := by
  intro w p l e R s m args below meth c H locs cells slots Z arr a hc hp hs hl hr
  have hv := hl.2.2 _ (lsA_mem (w := w) 0 hx)
  rw [Nat.zero_add] at hv
  have K := k w p l e R s m args below meth c H locs cells slots Z arr a hc hp hs hl hr
  rcases of_decide_eq_true hn with ⟨e1, e2⟩ | ⟨e0, e1, e2⟩
  · subst e1; subst e2
    exact lv_lload a.1 a.2.1 hd hv K
  · subst e1; subst e2
    exact lv_lload_n a.1 a.2.1 hd (Nat.mod_eq_of_lt e0) hv K
theorem r_aload {i z : Nat} {x : Nat} {ins : Instr} (hd : decode (mC n) pc = .ok (ins, z)) (hn : n4 ins z i .aload .aload_n = true) (hx : lg ls i = some (.ref x)) (k : Runs n d Q (pc + z) ls (.ref x :: st) M L) : Runs n d Q pc ls st M L := by
  intro w p l e R s m args below meth c H locs cells slots Z arr a hc hp hs hl hr
  have hv := hl.2.2 _ (lsA_mem (w := w) 0 hx)
  rw [Nat.zero_add] at hv
  have K := k w p l e R s m args below meth c H locs cells slots Z arr a hc hp hs hl hr
  rcases of_decide_eq_true hn with ⟨e1, e2⟩ | ⟨e0, e1, e2⟩
  · subst e1; subst e2
    exact lv_aload a.1 a.2.1 hd hv K
  · subst e1; subst e2
    exact lv_aload_n a.1 a.2.1 hd (Nat.mod_eq_of_lt e0) hv K
theorem r_istore {i z : Nat} {x : Int32} {ins : Instr} (hd : decode (mC n) pc = .ok (ins, z)) (hn : n4 ins z i .istore .istore_n = true) (hi : i < mL n) (k : Runs n d Q (pc + z) (ls1 ls i (.int x)) st M L) : Runs n d Q pc ls (.int x :: st) M L := by
  intro w p l e R s m args below meth c H locs cells slots Z arr a hc hp hs hl hr
  have K : ∀ arr' : Array Slot, lv_has arr' (mL n) ((i, up w (.int x)) :: (lsA w 0 ls).filter (fun q => !(q.1 == i) && !(q.1 + 1 == i && q.2.category == 2))) → W p l e R s m args below meth c H locs cells slots Z (F0 m (pc + z) arr' (st.map (up w))) := fun arr' h9 => k w p l e R s m args below meth c H locs cells slots Z arr' a hc hp hs (lv_mono h9 fun q hq => by
    rcases ls1_mem hq with h | ⟨h1, h2, h3⟩
    · rw [Nat.zero_add] at h; rw [h]; exact List.mem_cons_self
    · rw [Nat.zero_add] at h2 h3
      exact List.mem_cons_of_mem _ (List.mem_filter.mpr ⟨h1, by simp only [Bool.and_eq_true, Bool.not_eq_true', beq_eq_false_iff_ne, ne_eq, Bool.and_eq_false_iff]; exact ⟨h2, by by_cases z9 : q.1 + 1 = i; exact Or.inr (fun z8 => h3 ⟨z9, z8⟩); exact Or.inl z9⟩⟩)) hr
  rcases of_decide_eq_true hn with ⟨e1, e2⟩ | ⟨e0, e1, e2⟩
  · subst e1; subst e2
    exact lv_istore a.1 a.2.1 hd hl hi rfl K
  · subst e1; subst e2
    exact lv_istore_n a.1 a.2.1 hd (Nat.mod_eq_of_lt e0) hl hi rfl K
theorem r_lstore {i z : Nat} {x : Int64} {ins : Instr} (hd : decode (mC n) pc = .ok (ins, z)) (hn : n4 ins z i .lstore .lstore_n = true) (hi : i + 1 < mL n) (k : Runs n d Q (pc + z) (ls2 ls i (.long x)) st M L) : Runs n d Q pc ls (.long x :: st) M L := by
  intro w p l e R s m args below meth c H locs cells slots Z arr a hc hp hs hl hr
  have K : ∀ arr' : Array Slot, lv_has arr' (mL n) ((i, up w (.long x)) :: (lsA w 0 ls).filter (fun q => !(q.1 == i) && (!(q.1 == i + 1) && !(q.1 + 1 == i && q.2.category == 2)))) → W p l e R s m args below meth c H locs cells slots Z (F0 m (pc + z) arr' (st.map (up w))) := fun arr' h9 => k w p l e R s m args below meth c H locs cells slots Z arr' a hc hp hs (lv_mono h9 fun q hq => by
    rcases ls2_mem hq with h | ⟨h1, h2, h3, h4⟩
    · rw [Nat.zero_add] at h; rw [h]; exact List.mem_cons_self
    · rw [Nat.zero_add] at h2 h3 h4
      exact List.mem_cons_of_mem _ (List.mem_filter.mpr ⟨h1, by simp only [Bool.and_eq_true, Bool.not_eq_true', beq_eq_false_iff_ne, ne_eq, Bool.and_eq_false_iff]; exact ⟨h2, h3, by by_cases z9 : q.1 + 1 = i; exact Or.inr (fun z8 => h4 ⟨z9, z8⟩); exact Or.inl z9⟩⟩)) hr
  rcases of_decide_eq_true hn with ⟨e1, e2⟩ | ⟨e0, e1, e2⟩
  · subst e1; subst e2
    exact lv_lstore a.1 a.2.1 hd hl hi rfl K
  · subst e1; subst e2
    exact lv_lstore_n a.1 a.2.1 hd (Nat.mod_eq_of_lt e0) hl hi rfl K
theorem r_astore {i z : Nat} {x : Nat} {ins : Instr} (hd : decode (mC n) pc = .ok (ins, z)) (hn : n4 ins z i .astore .astore_n = true) (hi : i < mL n) (k : Runs n d Q (pc + z) (ls1 ls i (.ref x)) st M L) : Runs n d Q pc ls (.ref x :: st) M L := by
  intro w p l e R s m args below meth c H locs cells slots Z arr a hc hp hs hl hr
  have K : ∀ arr' : Array Slot, lv_has arr' (mL n) ((i, up w (.ref x)) :: (lsA w 0 ls).filter (fun q => !(q.1 == i) && !(q.1 + 1 == i && q.2.category == 2))) → W p l e R s m args below meth c H locs cells slots Z (F0 m (pc + z) arr' (st.map (up w))) := fun arr' h9 => k w p l e R s m args below meth c H locs cells slots Z arr' a hc hp hs (lv_mono h9 fun q hq => by
    rcases ls1_mem hq with h | ⟨h1, h2, h3⟩
    · rw [Nat.zero_add] at h; rw [h]; exact List.mem_cons_self
    · rw [Nat.zero_add] at h2 h3
      exact List.mem_cons_of_mem _ (List.mem_filter.mpr ⟨h1, by simp only [Bool.and_eq_true, Bool.not_eq_true', beq_eq_false_iff_ne, ne_eq, Bool.and_eq_false_iff]; exact ⟨h2, by by_cases z9 : q.1 + 1 = i; exact Or.inr (fun z8 => h3 ⟨z9, z8⟩); exact Or.inl z9⟩⟩)) hr
  rcases of_decide_eq_true hn with ⟨e1, e2⟩ | ⟨e0, e1, e2⟩
  · subst e1; subst e2
    exact lv_astore a.1 a.2.1 hd hl hi rfl K
  · subst e1; subst e2
    exact lv_astore_n a.1 a.2.1 hd (Nat.mod_eq_of_lt e0) hl hi rfl K
theorem r_iinc {i : Nat} {v : Int} {x : Int32} (hd : decode (mC n) pc = .ok (.iinc i v, 3)) (hi : i < mL n) (hx : lg ls i = some (.int x)) (k : Runs n d Q (pc + 3) (ls1 ls i (.int (x + Int32.ofInt v))) st M L) : Runs n d Q pc ls st M L := by
  intro w p l e R s m args below meth c H locs cells slots Z arr a hc hp hs hl hr
  have hm := lsA_mem (w := w) 0 hx
  rw [Nat.zero_add] at hm
  obtain ⟨kk, hk⟩ := List.getElem?_of_mem hm
  refine lv_iinc (v := x + Int32.ofInt v) a.1 a.2.1 hd hl hk rfl hi rfl (fun arr' h9 => k w p l e R s m args below meth c H locs cells slots Z arr' a hc hp hs (lv_mono h9 fun q hq => ?_) hr)
  rcases ls1_mem hq with h | ⟨h1, h2, h3⟩
  · rw [Nat.zero_add] at h; rw [h]; exact List.mem_cons_self
  · rw [Nat.zero_add] at h2 h3
    exact List.mem_cons_of_mem _ (List.mem_filter.mpr ⟨h1, by simp only [Bool.and_eq_true, Bool.not_eq_true', beq_eq_false_iff_ne, ne_eq, Bool.and_eq_false_iff]; exact ⟨h2, by by_cases z9 : q.1 + 1 = i; exact Or.inr (fun z8 => h3 ⟨z9, z8⟩); exact Or.inl z9⟩⟩)
theorem r_icmp {cd : ClassFile.Cond} {off : Int} {t : Nat} {x y : Int32} (hd : decode (mC n) pc = .ok (.if_icmp cd off, 3)) (ht : (pc : Int) + off = (t : Int)) (kt : cT cd x y → Runs n d Q t ls st M L) (kf : cF cd x y → Runs n d Q (pc + 3) ls st M L) : Runs n d Q pc ls (.int y :: .int x :: st) M L := by
  intro w p l e R s m args below meth c H locs cells slots Z arr a hc hp hs hl hr
  cases cd
  · exact lv_icmp_eq a.1 a.2.1 hd ht (fun h => kt h w p l e R s m args below meth c H locs cells slots Z arr a hc hp hs hl hr) (fun h => kf h w p l e R s m args below meth c H locs cells slots Z arr a hc hp hs hl hr)
  · exact lv_icmp_ne a.1 a.2.1 hd ht (fun h => kt h w p l e R s m args below meth c H locs cells slots Z arr a hc hp hs hl hr) (fun h => kf h w p l e R s m args below meth c H locs cells slots Z arr a hc hp hs hl hr)
  · exact lv_icmp_lt a.1 a.2.1 hd ht (fun h => kt h w p l e R s m args below meth c H locs cells slots Z arr a hc hp hs hl hr) (fun h => kf h w p l e R s m args below meth c H locs cells slots Z arr a hc hp hs hl hr)
  · exact lv_icmp_ge a.1 a.2.1 hd ht (fun h => kt h w p l e R s m args below meth c H locs cells slots Z arr a hc hp hs hl hr) (fun h => kf h w p l e R s m args below meth c H locs cells slots Z arr a hc hp hs hl hr)
  · exact lv_icmp_gt a.1 a.2.1 hd ht (fun h => kt h w p l e R s m args below meth c H locs cells slots Z arr a hc hp hs hl hr) (fun h => kf h w p l e R s m args below meth c H locs cells slots Z arr a hc hp hs hl hr)
  · exact lv_icmp_le a.1 a.2.1 hd ht (fun h => kt h w p l e R s m args below meth c H locs cells slots Z arr a hc hp hs hl hr) (fun h => kf h w p l e R s m args below meth c H locs cells slots Z arr a hc hp hs hl hr)
theorem r_if {cd : ClassFile.Cond} {off : Int} {t : Nat} {x : Int32} (hd : decode (mC n) pc = .ok (.ifCond cd off, 3)) (ht : (pc : Int) + off = (t : Int)) (kt : cT cd x 0 → Runs n d Q t ls st M L) (kf : cF cd x 0 → Runs n d Q (pc + 3) ls st M L) : Runs n d Q pc ls (.int x :: st) M L := by
  intro w p l e R s m args below meth c H locs cells slots Z arr a hc hp hs hl hr
  cases cd
  · exact lv_if_eq a.1 a.2.1 hd ht (fun h => kt h w p l e R s m args below meth c H locs cells slots Z arr a hc hp hs hl hr) (fun h => kf h w p l e R s m args below meth c H locs cells slots Z arr a hc hp hs hl hr)
  · exact lv_if_ne a.1 a.2.1 hd ht (fun h => kt h w p l e R s m args below meth c H locs cells slots Z arr a hc hp hs hl hr) (fun h => kf h w p l e R s m args below meth c H locs cells slots Z arr a hc hp hs hl hr)
  · exact lv_if_lt a.1 a.2.1 hd ht (fun h => kt h w p l e R s m args below meth c H locs cells slots Z arr a hc hp hs hl hr) (fun h => kf h w p l e R s m args below meth c H locs cells slots Z arr a hc hp hs hl hr)
  · exact lv_if_ge a.1 a.2.1 hd ht (fun h => kt h w p l e R s m args below meth c H locs cells slots Z arr a hc hp hs hl hr) (fun h => kf h w p l e R s m args below meth c H locs cells slots Z arr a hc hp hs hl hr)
  · exact lv_if_gt a.1 a.2.1 hd ht (fun h => kt h w p l e R s m args below meth c H locs cells slots Z arr a hc hp hs hl hr) (fun h => kf h w p l e R s m args below meth c H locs cells slots Z arr a hc hp hs hl hr)
  · exact lv_if_le a.1 a.2.1 hd ht (fun h => kt h w p l e R s m args below meth c H locs cells slots Z arr a hc hp hs hl hr) (fun h => kf h w p l e R s m args below meth c H locs cells slots Z arr a hc hp hs hl hr)
theorem r_goto {off : Int} {t : Nat} (hd : decode (mC n) pc = .ok (.goto off, 3)) (ht : (pc : Int) + off = (t : Int)) (k : Runs n d Q t ls st M L) : Runs n d Q pc ls st M L := by
  intro w p l e R s m args below meth c H locs cells slots Z arr a hc hp hs hl hr
  exact lv_goto a.1 a.2.1 hd ht (k w p l e R s m args below meth c H locs cells slots Z arr a hc hp hs hl hr)
end
