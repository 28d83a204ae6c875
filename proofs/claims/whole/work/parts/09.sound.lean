/-! THE STRETCHES: wp is sound -/
theorem rt_app : ∀ (a : Nat) (acc st : List Value), a ≤ st.length → st = (rt a [] st).reverse ++ dr a st ∧ rt a acc st = rt a [] st ++ acc ∧ (rt a [] st).length = a
  | 0, acc, st, _ => ⟨rfl, rfl, rfl⟩
  | a + 1, acc, [], h => absurd h (by simp)
  | a + 1, acc, v :: st, h => by
    have h' : a ≤ st.length := by simpa using h
    obtain ⟨h1, -, h3⟩ := rt_app a [] st h'
    have e : ∀ acc, rt (a + 1) acc (v :: st) = rt a [] st ++ v :: acc := fun acc => (rt_app a (v :: acc) st h').2.1
    refine ⟨?_, ?_, ?_⟩
    · rw [e []]
      show v :: st = (rt a [] st ++ [v]).reverse ++ dr a st
      rw [List.reverse_append]
      show v :: st = v :: ((rt a [] st).reverse ++ dr a st)
      rw [← h1]
    · rw [e acc, e []]
      simp
    · rw [e []]
      simp [h3]
theorem rt_short : ∀ (a : Nat) (acc st : List Value), st.length < a → (rt a acc st).length = acc.length + st.length
  | 0, acc, st, h => absurd h (by omega)
  | a + 1, acc, [], _ => rfl
  | a + 1, acc, v :: st, h => by
    have := rt_short a (v :: acc) st (by simpa using h)
    show (rt a (v :: acc) st).length = _
    rw [this]
    simp
    omega
theorem sw_mono {J J' : Nat → Prop} (hJ : ∀ t, J t → J' t) {x : Int32} {d : Int} : ∀ {ps : List (Int × Int)}, sw J x d ps → sw J' x d ps
  | [], h => hJ _ h
  | (v, t) :: ps, h => ⟨fun e => hJ _ (h.1 e), fun e => sw_mono hJ (ps := ps) (h.2 e)⟩
theorem any_mRows {n x m : Nat} (h : mRows.any (fun r => r.1 == mO n && r.2.1 == x && r.2.2.1 == m) = true) : Cond.methodLink (cn (mO n)) x (mN m) ∈ tg := by
  obtain ⟨r, hr, h⟩ := List.any_eq_true.mp h
  simp only [Bool.and_eq_true, beq_iff_eq] at h
  have := mRows_ok r hr
  rw [h.1.1, h.1.2, h.2] at this
  exact tg_in this rfl
theorem any_nRows {n x m : Nat} (h : (mRows.any (fun r => r.1 == mO n && r.2.1 == x && r.2.2.1 == m) || nRows.any (fun r => r.1 == mO n && r.2.1 == x && r.2.2.1 == m)) = true) : Cond.methodLink (cn (mO n)) x (mN m) ∈ tg ∨ ∃ r ∈ nRows, nW r = .methodLinkNest (cn (mO n)) x (mN m) "WinkCircle" := by
  rw [Bool.or_eq_true] at h
  rcases h with h | h
  · exact Or.inl (any_mRows h)
  · obtain ⟨r, hr, h⟩ := List.any_eq_true.mp h
    simp only [Bool.and_eq_true, beq_iff_eq] at h
    refine Or.inr ⟨r, hr, ?_⟩
    unfold nW
    rw [h.1.1, h.1.2, h.2]
theorem any_cRows {n x : Nat} {v : Int32} (h : cRows.any (fun r => r.1 == mO n && r.2.1 == x && r.2.2.1 == v) = true) : Cond.constant (cn (mO n)) x v ∈ tg := by
  obtain ⟨r, hr, h⟩ := List.any_eq_true.mp h
  simp only [Bool.and_eq_true, beq_iff_eq] at h
  have := cRows_ok r hr
  rw [h.1.1, h.1.2, h.2] at this
  exact tg_in this rfl
theorem any_lRows {n x : Nat} {v : Int64} (h : lRows.any (fun r => r.1 == mO n && r.2.1 == x && r.2.2.1 == v) = true) : Cond.constantLong (cn (mO n)) x v ∈ tg := by
  obtain ⟨r, hr, h⟩ := List.any_eq_true.mp h
  simp only [Bool.and_eq_true, beq_iff_eq] at h
  have := lRows_ok r hr
  rw [h.1.1, h.1.2, h.2] at this
  exact tg_in this rfl
section
variable {n d : Nat} {Q : Qt}

theorem s_iadd {J : Jt} {pc z : Nat} {i : Instr} {k : Lc → List Value → Mm → Ml → Prop} {ls : Lc} {st : List Value} {M : Mm} {L : Ml} (hd : decode (mC n) pc = .ok (i, z)) (ho : okI n pc i z .iadd = true) (h : sx J (Runs n d Q) (CallOk d) Q .iadd k ls st M L) (hJ : ∀ pc ls st M L, J pc ls st M L → Runs n d Q pc ls st M L) (hk : ∀ ls st M L, k ls st M L → Runs n d Q (pc + z) ls st M L) : Runs n d Q pc ls st M L := by
  obtain ⟨e1, e2⟩ := of_decide_eq_true ho
  subst e1; subst e2
  simp only [sx] at h
  split at h
  · exact r_iadd hd (hk _ _ _ _ h)
  · exact h.elim
theorem s_isub {J : Jt} {pc z : Nat} {i : Instr} {k : Lc → List Value → Mm → Ml → Prop} {ls : Lc} {st : List Value} {M : Mm} {L : Ml} (hd : decode (mC n) pc = .ok (i, z)) (ho : okI n pc i z .isub = true) (h : sx J (Runs n d Q) (CallOk d) Q .isub k ls st M L) (hJ : ∀ pc ls st M L, J pc ls st M L → Runs n d Q pc ls st M L) (hk : ∀ ls st M L, k ls st M L → Runs n d Q (pc + z) ls st M L) : Runs n d Q pc ls st M L := by
  obtain ⟨e1, e2⟩ := of_decide_eq_true ho
  subst e1; subst e2
  simp only [sx] at h
  split at h
  · exact r_isub hd (hk _ _ _ _ h)
  · exact h.elim
theorem s_imul {J : Jt} {pc z : Nat} {i : Instr} {k : Lc → List Value → Mm → Ml → Prop} {ls : Lc} {st : List Value} {M : Mm} {L : Ml} (hd : decode (mC n) pc = .ok (i, z)) (ho : okI n pc i z .imul = true) (h : sx J (Runs n d Q) (CallOk d) Q .imul k ls st M L) (hJ : ∀ pc ls st M L, J pc ls st M L → Runs n d Q pc ls st M L) (hk : ∀ ls st M L, k ls st M L → Runs n d Q (pc + z) ls st M L) : Runs n d Q pc ls st M L := by
  obtain ⟨e1, e2⟩ := of_decide_eq_true ho
  subst e1; subst e2
  simp only [sx] at h
  split at h
  · exact r_imul hd (hk _ _ _ _ h)
  · exact h.elim
theorem s_iand {J : Jt} {pc z : Nat} {i : Instr} {k : Lc → List Value → Mm → Ml → Prop} {ls : Lc} {st : List Value} {M : Mm} {L : Ml} (hd : decode (mC n) pc = .ok (i, z)) (ho : okI n pc i z .iand = true) (h : sx J (Runs n d Q) (CallOk d) Q .iand k ls st M L) (hJ : ∀ pc ls st M L, J pc ls st M L → Runs n d Q pc ls st M L) (hk : ∀ ls st M L, k ls st M L → Runs n d Q (pc + z) ls st M L) : Runs n d Q pc ls st M L := by
  obtain ⟨e1, e2⟩ := of_decide_eq_true ho
  subst e1; subst e2
  simp only [sx] at h
  split at h
  · exact r_iand hd (hk _ _ _ _ h)
  · exact h.elim
theorem s_ior {J : Jt} {pc z : Nat} {i : Instr} {k : Lc → List Value → Mm → Ml → Prop} {ls : Lc} {st : List Value} {M : Mm} {L : Ml} (hd : decode (mC n) pc = .ok (i, z)) (ho : okI n pc i z .ior = true) (h : sx J (Runs n d Q) (CallOk d) Q .ior k ls st M L) (hJ : ∀ pc ls st M L, J pc ls st M L → Runs n d Q pc ls st M L) (hk : ∀ ls st M L, k ls st M L → Runs n d Q (pc + z) ls st M L) : Runs n d Q pc ls st M L := by
  obtain ⟨e1, e2⟩ := of_decide_eq_true ho
  subst e1; subst e2
  simp only [sx] at h
  split at h
  · exact r_ior hd (hk _ _ _ _ h)
  · exact h.elim
theorem s_ixor {J : Jt} {pc z : Nat} {i : Instr} {k : Lc → List Value → Mm → Ml → Prop} {ls : Lc} {st : List Value} {M : Mm} {L : Ml} (hd : decode (mC n) pc = .ok (i, z)) (ho : okI n pc i z .ixor = true) (h : sx J (Runs n d Q) (CallOk d) Q .ixor k ls st M L) (hJ : ∀ pc ls st M L, J pc ls st M L → Runs n d Q pc ls st M L) (hk : ∀ ls st M L, k ls st M L → Runs n d Q (pc + z) ls st M L) : Runs n d Q pc ls st M L := by
  obtain ⟨e1, e2⟩ := of_decide_eq_true ho
  subst e1; subst e2
  simp only [sx] at h
  split at h
  · exact r_ixor hd (hk _ _ _ _ h)
  · exact h.elim
theorem s_ishl {J : Jt} {pc z : Nat} {i : Instr} {k : Lc → List Value → Mm → Ml → Prop} {ls : Lc} {st : List Value} {M : Mm} {L : Ml} (hd : decode (mC n) pc = .ok (i, z)) (ho : okI n pc i z .ishl = true) (h : sx J (Runs n d Q) (CallOk d) Q .ishl k ls st M L) (hJ : ∀ pc ls st M L, J pc ls st M L → Runs n d Q pc ls st M L) (hk : ∀ ls st M L, k ls st M L → Runs n d Q (pc + z) ls st M L) : Runs n d Q pc ls st M L := by
  obtain ⟨e1, e2⟩ := of_decide_eq_true ho
  subst e1; subst e2
  simp only [sx] at h
  split at h
  · exact r_ishl hd (hk _ _ _ _ h)
  · exact h.elim
theorem s_ishr {J : Jt} {pc z : Nat} {i : Instr} {k : Lc → List Value → Mm → Ml → Prop} {ls : Lc} {st : List Value} {M : Mm} {L : Ml} (hd : decode (mC n) pc = .ok (i, z)) (ho : okI n pc i z .ishr = true) (h : sx J (Runs n d Q) (CallOk d) Q .ishr k ls st M L) (hJ : ∀ pc ls st M L, J pc ls st M L → Runs n d Q pc ls st M L) (hk : ∀ ls st M L, k ls st M L → Runs n d Q (pc + z) ls st M L) : Runs n d Q pc ls st M L := by
  obtain ⟨e1, e2⟩ := of_decide_eq_true ho
  subst e1; subst e2
  simp only [sx] at h
  split at h
  · exact r_ishr hd (hk _ _ _ _ h)
  · exact h.elim
theorem s_iushr {J : Jt} {pc z : Nat} {i : Instr} {k : Lc → List Value → Mm → Ml → Prop} {ls : Lc} {st : List Value} {M : Mm} {L : Ml} (hd : decode (mC n) pc = .ok (i, z)) (ho : okI n pc i z .iushr = true) (h : sx J (Runs n d Q) (CallOk d) Q .iushr k ls st M L) (hJ : ∀ pc ls st M L, J pc ls st M L → Runs n d Q pc ls st M L) (hk : ∀ ls st M L, k ls st M L → Runs n d Q (pc + z) ls st M L) : Runs n d Q pc ls st M L := by
  obtain ⟨e1, e2⟩ := of_decide_eq_true ho
  subst e1; subst e2
  simp only [sx] at h
  split at h
  · exact r_iushr hd (hk _ _ _ _ h)
  · exact h.elim
theorem s_idiv {J : Jt} {pc z : Nat} {i : Instr} {k : Lc → List Value → Mm → Ml → Prop} {ls : Lc} {st : List Value} {M : Mm} {L : Ml} (hd : decode (mC n) pc = .ok (i, z)) (ho : okI n pc i z .idiv = true) (h : sx J (Runs n d Q) (CallOk d) Q .idiv k ls st M L) (hJ : ∀ pc ls st M L, J pc ls st M L → Runs n d Q pc ls st M L) (hk : ∀ ls st M L, k ls st M L → Runs n d Q (pc + z) ls st M L) : Runs n d Q pc ls st M L := by
  obtain ⟨e1, e2⟩ := of_decide_eq_true ho
  subst e1; subst e2
  simp only [sx] at h
  split at h
  · exact r_idiv hd h.1 (hk _ _ _ _ h.2)
  · exact h.elim
theorem s_irem {J : Jt} {pc z : Nat} {i : Instr} {k : Lc → List Value → Mm → Ml → Prop} {ls : Lc} {st : List Value} {M : Mm} {L : Ml} (hd : decode (mC n) pc = .ok (i, z)) (ho : okI n pc i z .irem = true) (h : sx J (Runs n d Q) (CallOk d) Q .irem k ls st M L) (hJ : ∀ pc ls st M L, J pc ls st M L → Runs n d Q pc ls st M L) (hk : ∀ ls st M L, k ls st M L → Runs n d Q (pc + z) ls st M L) : Runs n d Q pc ls st M L := by
  obtain ⟨e1, e2⟩ := of_decide_eq_true ho
  subst e1; subst e2
  simp only [sx] at h
  split at h
  · exact r_irem hd h.1 (hk _ _ _ _ h.2)
  · exact h.elim
theorem s_ldiv {J : Jt} {pc z : Nat} {i : Instr} {k : Lc → List Value → Mm → Ml → Prop} {ls : Lc} {st : List Value} {M : Mm} {L : Ml} (hd : decode (mC n) pc = .ok (i, z)) (ho : okI n pc i z .ldiv = true) (h : sx J (Runs n d Q) (CallOk d) Q .ldiv k ls st M L) (hJ : ∀ pc ls st M L, J pc ls st M L → Runs n d Q pc ls st M L) (hk : ∀ ls st M L, k ls st M L → Runs n d Q (pc + z) ls st M L) : Runs n d Q pc ls st M L := by
  obtain ⟨e1, e2⟩ := of_decide_eq_true ho
  subst e1; subst e2
  simp only [sx] at h
  split at h
  · exact r_ldiv hd h.1 (hk _ _ _ _ h.2)
  · exact h.elim
theorem s_lrem {J : Jt} {pc z : Nat} {i : Instr} {k : Lc → List Value → Mm → Ml → Prop} {ls : Lc} {st : List Value} {M : Mm} {L : Ml} (hd : decode (mC n) pc = .ok (i, z)) (ho : okI n pc i z .lrem = true) (h : sx J (Runs n d Q) (CallOk d) Q .lrem k ls st M L) (hJ : ∀ pc ls st M L, J pc ls st M L → Runs n d Q pc ls st M L) (hk : ∀ ls st M L, k ls st M L → Runs n d Q (pc + z) ls st M L) : Runs n d Q pc ls st M L := by
  obtain ⟨e1, e2⟩ := of_decide_eq_true ho
  subst e1; subst e2
  simp only [sx] at h
  split at h
  · exact r_lrem hd h.1 (hk _ _ _ _ h.2)
  · exact h.elim
theorem s_ineg {J : Jt} {pc z : Nat} {i : Instr} {k : Lc → List Value → Mm → Ml → Prop} {ls : Lc} {st : List Value} {M : Mm} {L : Ml} (hd : decode (mC n) pc = .ok (i, z)) (ho : okI n pc i z .ineg = true) (h : sx J (Runs n d Q) (CallOk d) Q .ineg k ls st M L) (hJ : ∀ pc ls st M L, J pc ls st M L → Runs n d Q pc ls st M L) (hk : ∀ ls st M L, k ls st M L → Runs n d Q (pc + z) ls st M L) : Runs n d Q pc ls st M L := by
  obtain ⟨e1, e2⟩ := of_decide_eq_true ho
  subst e1; subst e2
  simp only [sx] at h
  split at h
  · exact r_ineg hd (hk _ _ _ _ h)
  · exact h.elim
theorem s_ladd {J : Jt} {pc z : Nat} {i : Instr} {k : Lc → List Value → Mm → Ml → Prop} {ls : Lc} {st : List Value} {M : Mm} {L : Ml} (hd : decode (mC n) pc = .ok (i, z)) (ho : okI n pc i z .ladd = true) (h : sx J (Runs n d Q) (CallOk d) Q .ladd k ls st M L) (hJ : ∀ pc ls st M L, J pc ls st M L → Runs n d Q pc ls st M L) (hk : ∀ ls st M L, k ls st M L → Runs n d Q (pc + z) ls st M L) : Runs n d Q pc ls st M L := by
  obtain ⟨e1, e2⟩ := of_decide_eq_true ho
  subst e1; subst e2
  simp only [sx] at h
  split at h
  · exact r_ladd hd (hk _ _ _ _ h)
  · exact h.elim
theorem s_lsub {J : Jt} {pc z : Nat} {i : Instr} {k : Lc → List Value → Mm → Ml → Prop} {ls : Lc} {st : List Value} {M : Mm} {L : Ml} (hd : decode (mC n) pc = .ok (i, z)) (ho : okI n pc i z .lsub = true) (h : sx J (Runs n d Q) (CallOk d) Q .lsub k ls st M L) (hJ : ∀ pc ls st M L, J pc ls st M L → Runs n d Q pc ls st M L) (hk : ∀ ls st M L, k ls st M L → Runs n d Q (pc + z) ls st M L) : Runs n d Q pc ls st M L := by
  obtain ⟨e1, e2⟩ := of_decide_eq_true ho
  subst e1; subst e2
  simp only [sx] at h
  split at h
  · exact r_lsub hd (hk _ _ _ _ h)
  · exact h.elim
theorem s_lmul {J : Jt} {pc z : Nat} {i : Instr} {k : Lc → List Value → Mm → Ml → Prop} {ls : Lc} {st : List Value} {M : Mm} {L : Ml} (hd : decode (mC n) pc = .ok (i, z)) (ho : okI n pc i z .lmul = true) (h : sx J (Runs n d Q) (CallOk d) Q .lmul k ls st M L) (hJ : ∀ pc ls st M L, J pc ls st M L → Runs n d Q pc ls st M L) (hk : ∀ ls st M L, k ls st M L → Runs n d Q (pc + z) ls st M L) : Runs n d Q pc ls st M L := by
  obtain ⟨e1, e2⟩ := of_decide_eq_true ho
  subst e1; subst e2
  simp only [sx] at h
  split at h
  · exact r_lmul hd (hk _ _ _ _ h)
  · exact h.elim
theorem s_lcmp {J : Jt} {pc z : Nat} {i : Instr} {k : Lc → List Value → Mm → Ml → Prop} {ls : Lc} {st : List Value} {M : Mm} {L : Ml} (hd : decode (mC n) pc = .ok (i, z)) (ho : okI n pc i z .lcmp = true) (h : sx J (Runs n d Q) (CallOk d) Q .lcmp k ls st M L) (hJ : ∀ pc ls st M L, J pc ls st M L → Runs n d Q pc ls st M L) (hk : ∀ ls st M L, k ls st M L → Runs n d Q (pc + z) ls st M L) : Runs n d Q pc ls st M L := by
  obtain ⟨e1, e2⟩ := of_decide_eq_true ho
  subst e1; subst e2
  simp only [sx] at h
  split at h
  · exact r_lcmp hd (hk _ _ _ _ h)
  · exact h.elim
theorem s_i2l {J : Jt} {pc z : Nat} {i : Instr} {k : Lc → List Value → Mm → Ml → Prop} {ls : Lc} {st : List Value} {M : Mm} {L : Ml} (hd : decode (mC n) pc = .ok (i, z)) (ho : okI n pc i z .i2l = true) (h : sx J (Runs n d Q) (CallOk d) Q .i2l k ls st M L) (hJ : ∀ pc ls st M L, J pc ls st M L → Runs n d Q pc ls st M L) (hk : ∀ ls st M L, k ls st M L → Runs n d Q (pc + z) ls st M L) : Runs n d Q pc ls st M L := by
  obtain ⟨e1, e2⟩ := of_decide_eq_true ho
  subst e1; subst e2
  simp only [sx] at h
  split at h
  · exact r_i2l hd (hk _ _ _ _ h)
  · exact h.elim
theorem s_l2i {J : Jt} {pc z : Nat} {i : Instr} {k : Lc → List Value → Mm → Ml → Prop} {ls : Lc} {st : List Value} {M : Mm} {L : Ml} (hd : decode (mC n) pc = .ok (i, z)) (ho : okI n pc i z .l2i = true) (h : sx J (Runs n d Q) (CallOk d) Q .l2i k ls st M L) (hJ : ∀ pc ls st M L, J pc ls st M L → Runs n d Q pc ls st M L) (hk : ∀ ls st M L, k ls st M L → Runs n d Q (pc + z) ls st M L) : Runs n d Q pc ls st M L := by
  obtain ⟨e1, e2⟩ := of_decide_eq_true ho
  subst e1; subst e2
  simp only [sx] at h
  split at h
  · exact r_l2i hd (hk _ _ _ _ h)
  · exact h.elim
theorem s_i2b {J : Jt} {pc z : Nat} {i : Instr} {k : Lc → List Value → Mm → Ml → Prop} {ls : Lc} {st : List Value} {M : Mm} {L : Ml} (hd : decode (mC n) pc = .ok (i, z)) (ho : okI n pc i z .i2b = true) (h : sx J (Runs n d Q) (CallOk d) Q .i2b k ls st M L) (hJ : ∀ pc ls st M L, J pc ls st M L → Runs n d Q pc ls st M L) (hk : ∀ ls st M L, k ls st M L → Runs n d Q (pc + z) ls st M L) : Runs n d Q pc ls st M L := by
  obtain ⟨e1, e2⟩ := of_decide_eq_true ho
  subst e1; subst e2
  simp only [sx] at h
  split at h
  · exact r_i2b hd (hk _ _ _ _ h)
  · exact h.elim
theorem s_i2s {J : Jt} {pc z : Nat} {i : Instr} {k : Lc → List Value → Mm → Ml → Prop} {ls : Lc} {st : List Value} {M : Mm} {L : Ml} (hd : decode (mC n) pc = .ok (i, z)) (ho : okI n pc i z .i2s = true) (h : sx J (Runs n d Q) (CallOk d) Q .i2s k ls st M L) (hJ : ∀ pc ls st M L, J pc ls st M L → Runs n d Q pc ls st M L) (hk : ∀ ls st M L, k ls st M L → Runs n d Q (pc + z) ls st M L) : Runs n d Q pc ls st M L := by
  obtain ⟨e1, e2⟩ := of_decide_eq_true ho
  subst e1; subst e2
  simp only [sx] at h
  split at h
  · exact r_i2s hd (hk _ _ _ _ h)
  · exact h.elim
theorem s_dup {J : Jt} {pc z : Nat} {i : Instr} {k : Lc → List Value → Mm → Ml → Prop} {ls : Lc} {st : List Value} {M : Mm} {L : Ml} (hd : decode (mC n) pc = .ok (i, z)) (ho : okI n pc i z .dup = true) (h : sx J (Runs n d Q) (CallOk d) Q .dup k ls st M L) (hJ : ∀ pc ls st M L, J pc ls st M L → Runs n d Q pc ls st M L) (hk : ∀ ls st M L, k ls st M L → Runs n d Q (pc + z) ls st M L) : Runs n d Q pc ls st M L := by
  obtain ⟨e1, e2⟩ := of_decide_eq_true ho
  subst e1; subst e2
  simp only [sx] at h
  split at h
  · exact r_dup hd rfl (hk _ _ _ _ h)
  · exact r_dup hd rfl (hk _ _ _ _ h)
  · exact h.elim
theorem s_pop {J : Jt} {pc z : Nat} {i : Instr} {k : Lc → List Value → Mm → Ml → Prop} {ls : Lc} {st : List Value} {M : Mm} {L : Ml} (hd : decode (mC n) pc = .ok (i, z)) (ho : okI n pc i z .pop = true) (h : sx J (Runs n d Q) (CallOk d) Q .pop k ls st M L) (hJ : ∀ pc ls st M L, J pc ls st M L → Runs n d Q pc ls st M L) (hk : ∀ ls st M L, k ls st M L → Runs n d Q (pc + z) ls st M L) : Runs n d Q pc ls st M L := by
  obtain ⟨e1, e2⟩ := of_decide_eq_true ho
  subst e1; subst e2
  simp only [sx] at h
  split at h
  · exact r_pop hd rfl (hk _ _ _ _ h)
  · exact r_pop hd rfl (hk _ _ _ _ h)
  · exact h.elim
theorem s_dup2 {J : Jt} {pc z : Nat} {i : Instr} {k : Lc → List Value → Mm → Ml → Prop} {ls : Lc} {st : List Value} {M : Mm} {L : Ml} (hd : decode (mC n) pc = .ok (i, z)) (ho : okI n pc i z .dup2 = true) (h : sx J (Runs n d Q) (CallOk d) Q .dup2 k ls st M L) (hJ : ∀ pc ls st M L, J pc ls st M L → Runs n d Q pc ls st M L) (hk : ∀ ls st M L, k ls st M L → Runs n d Q (pc + z) ls st M L) : Runs n d Q pc ls st M L := by
  obtain ⟨e1, e2⟩ := of_decide_eq_true ho
  subst e1; subst e2
  simp only [sx] at h
  split at h
  · exact r_dup2 hd rfl rfl (hk _ _ _ _ h)
  · exact h.elim
theorem s_iconst {J : Jt} {pc z : Nat} {i : Instr} {k : Lc → List Value → Mm → Ml → Prop} {ls : Lc} {st : List Value} {M : Mm} {L : Ml} {v : Int} (hd : decode (mC n) pc = .ok (i, z)) (ho : okI n pc i z (.iconst v) = true) (h : sx J (Runs n d Q) (CallOk d) Q (.iconst v) k ls st M L) (hJ : ∀ pc ls st M L, J pc ls st M L → Runs n d Q pc ls st M L) (hk : ∀ ls st M L, k ls st M L → Runs n d Q (pc + z) ls st M L) : Runs n d Q pc ls st M L := by
  simp only [sx] at h
  rw [cI_e] at h
  unfold okI at ho
  dsimp only at ho
  split at ho
  · obtain ⟨e1, e2⟩ := of_decide_eq_true ho
    subst e1
    exact r_iconst hd e2 (hk _ _ _ _ h)
  · obtain ⟨e1, e2⟩ := of_decide_eq_true ho
    subst e1
    exact r_bipush hd e2 (hk _ _ _ _ h)
  · obtain ⟨e1, e2⟩ := of_decide_eq_true ho
    subst e1
    exact r_sipush hd e2 (hk _ _ _ _ h)
  · rw [Bool.and_eq_true, beq_iff_eq] at ho
    obtain ⟨e1, e2⟩ := ho
    subst e1
    exact r_ldc hd (any_cRows e2) (hk _ _ _ _ h)
  · rw [Bool.and_eq_true, beq_iff_eq] at ho
    obtain ⟨e1, e2⟩ := ho
    subst e1
    exact r_ldcw hd (any_cRows e2) (hk _ _ _ _ h)
  · cases ho
theorem s_lcst {J : Jt} {pc z : Nat} {i : Instr} {k : Lc → List Value → Mm → Ml → Prop} {ls : Lc} {st : List Value} {M : Mm} {L : Ml} {v : Int} (hd : decode (mC n) pc = .ok (i, z)) (ho : okI n pc i z (.jsr v) = true) (h : sx J (Runs n d Q) (CallOk d) Q (.jsr v) k ls st M L) (hJ : ∀ pc ls st M L, J pc ls st M L → Runs n d Q pc ls st M L) (hk : ∀ ls st M L, k ls st M L → Runs n d Q (pc + z) ls st M L) : Runs n d Q pc ls st M L := by
  simp only [sx] at h
  rw [lI_e] at h
  unfold okI at ho
  dsimp only at ho
  split at ho
  · obtain ⟨e1, e2⟩ := of_decide_eq_true ho
    subst e1
    exact r_lconst hd e2 (hk _ _ _ _ h)
  · rw [Bool.and_eq_true, beq_iff_eq] at ho
    obtain ⟨e1, e2⟩ := ho
    subst e1
    exact r_ldc2 hd (any_lRows e2) (hk _ _ _ _ h)
  · cases ho
theorem s_iload {J : Jt} {pc z : Nat} {i : Instr} {k : Lc → List Value → Mm → Ml → Prop} {ls : Lc} {st : List Value} {M : Mm} {L : Ml} {q : Nat} (hd : decode (mC n) pc = .ok (i, z)) (ho : okI n pc i z (.iload q) = true) (h : sx J (Runs n d Q) (CallOk d) Q (.iload q) k ls st M L) (hJ : ∀ pc ls st M L, J pc ls st M L → Runs n d Q pc ls st M L) (hk : ∀ ls st M L, k ls st M L → Runs n d Q (pc + z) ls st M L) : Runs n d Q pc ls st M L := by
  simp only [sx] at h
  split at h
  · rename_i x hx
    exact r_iload hd ho hx (hk _ _ _ _ h)
  · exact h.elim
theorem s_istore {J : Jt} {pc z : Nat} {i : Instr} {k : Lc → List Value → Mm → Ml → Prop} {ls : Lc} {st : List Value} {M : Mm} {L : Ml} {q : Nat} (hd : decode (mC n) pc = .ok (i, z)) (ho : okI n pc i z (.istore q) = true) (h : sx J (Runs n d Q) (CallOk d) Q (.istore q) k ls st M L) (hJ : ∀ pc ls st M L, J pc ls st M L → Runs n d Q pc ls st M L) (hk : ∀ ls st M L, k ls st M L → Runs n d Q (pc + z) ls st M L) : Runs n d Q pc ls st M L := by
  simp only [sx] at h
  have ho' : (n4 i z q .istore .istore_n && decide (q < mL n)) = true := ho
  rw [Bool.and_eq_true] at ho'
  split at h
  · exact r_istore hd ho'.1 (of_decide_eq_true ho'.2) (hk _ _ _ _ h)
  · exact h.elim
theorem s_lload {J : Jt} {pc z : Nat} {i : Instr} {k : Lc → List Value → Mm → Ml → Prop} {ls : Lc} {st : List Value} {M : Mm} {L : Ml} {q : Nat} (hd : decode (mC n) pc = .ok (i, z)) (ho : okI n pc i z (.lload q) = true) (h : sx J (Runs n d Q) (CallOk d) Q (.lload q) k ls st M L) (hJ : ∀ pc ls st M L, J pc ls st M L → Runs n d Q pc ls st M L) (hk : ∀ ls st M L, k ls st M L → Runs n d Q (pc + z) ls st M L) : Runs n d Q pc ls st M L := by
  simp only [sx] at h
  split at h
  · rename_i x hx
    exact r_lload hd ho hx (hk _ _ _ _ h)
  · exact h.elim
theorem s_lstore {J : Jt} {pc z : Nat} {i : Instr} {k : Lc → List Value → Mm → Ml → Prop} {ls : Lc} {st : List Value} {M : Mm} {L : Ml} {q : Nat} (hd : decode (mC n) pc = .ok (i, z)) (ho : okI n pc i z (.lstore q) = true) (h : sx J (Runs n d Q) (CallOk d) Q (.lstore q) k ls st M L) (hJ : ∀ pc ls st M L, J pc ls st M L → Runs n d Q pc ls st M L) (hk : ∀ ls st M L, k ls st M L → Runs n d Q (pc + z) ls st M L) : Runs n d Q pc ls st M L := by
  simp only [sx] at h
  have ho' : (n4 i z q .lstore .lstore_n && decide (q + 1 < mL n)) = true := ho
  rw [Bool.and_eq_true] at ho'
  split at h
  · exact r_lstore hd ho'.1 (of_decide_eq_true ho'.2) (hk _ _ _ _ h)
  · exact h.elim
theorem s_aload {J : Jt} {pc z : Nat} {i : Instr} {k : Lc → List Value → Mm → Ml → Prop} {ls : Lc} {st : List Value} {M : Mm} {L : Ml} {q : Nat} (hd : decode (mC n) pc = .ok (i, z)) (ho : okI n pc i z (.aload q) = true) (h : sx J (Runs n d Q) (CallOk d) Q (.aload q) k ls st M L) (hJ : ∀ pc ls st M L, J pc ls st M L → Runs n d Q pc ls st M L) (hk : ∀ ls st M L, k ls st M L → Runs n d Q (pc + z) ls st M L) : Runs n d Q pc ls st M L := by
  simp only [sx] at h
  split at h
  · rename_i x hx
    exact r_aload hd ho hx (hk _ _ _ _ h)
  · exact h.elim
theorem s_astore {J : Jt} {pc z : Nat} {i : Instr} {k : Lc → List Value → Mm → Ml → Prop} {ls : Lc} {st : List Value} {M : Mm} {L : Ml} {q : Nat} (hd : decode (mC n) pc = .ok (i, z)) (ho : okI n pc i z (.astore q) = true) (h : sx J (Runs n d Q) (CallOk d) Q (.astore q) k ls st M L) (hJ : ∀ pc ls st M L, J pc ls st M L → Runs n d Q pc ls st M L) (hk : ∀ ls st M L, k ls st M L → Runs n d Q (pc + z) ls st M L) : Runs n d Q pc ls st M L := by
  simp only [sx] at h
  have ho' : (n4 i z q .astore .astore_n && decide (q < mL n)) = true := ho
  rw [Bool.and_eq_true] at ho'
  split at h
  · exact r_astore hd ho'.1 (of_decide_eq_true ho'.2) (hk _ _ _ _ h)
  · exact h.elim
theorem s_iinc {J : Jt} {pc z : Nat} {i : Instr} {k : Lc → List Value → Mm → Ml → Prop} {ls : Lc} {st : List Value} {M : Mm} {L : Ml} {q : Nat} {v : Int} (hd : decode (mC n) pc = .ok (i, z)) (ho : okI n pc i z (.iinc q v) = true) (h : sx J (Runs n d Q) (CallOk d) Q (.iinc q v) k ls st M L) (hJ : ∀ pc ls st M L, J pc ls st M L → Runs n d Q pc ls st M L) (hk : ∀ ls st M L, k ls st M L → Runs n d Q (pc + z) ls st M L) : Runs n d Q pc ls st M L := by
  simp only [sx, cI_e] at h
  obtain ⟨e1, e2, e3⟩ := of_decide_eq_true ho
  subst e1; subst e2
  split at h
  · rename_i x hx
    exact r_iinc hd e3 hx (hk _ _ _ _ h)
  · exact h.elim
theorem s_icmp {J : Jt} {pc z : Nat} {i : Instr} {k : Lc → List Value → Mm → Ml → Prop} {ls : Lc} {st : List Value} {M : Mm} {L : Ml} {cd : ClassFile.Cond} {t : Int} (hd : decode (mC n) pc = .ok (i, z)) (ho : okI n pc i z (.if_icmp cd t) = true) (h : sx J (Runs n d Q) (CallOk d) Q (.if_icmp cd t) k ls st M L) (hJ : ∀ pc ls st M L, J pc ls st M L → Runs n d Q pc ls st M L) (hk : ∀ ls st M L, k ls st M L → Runs n d Q (pc + z) ls st M L) : Runs n d Q pc ls st M L := by
  simp only [sx] at h
  unfold okI at ho
  dsimp only at ho
  split at ho
  · obtain ⟨e1, e2, e3, e4⟩ := of_decide_eq_true ho
    subst e1; subst e4
    split at h
    · exact r_icmp hd (by omega) (fun q => hJ _ _ _ _ _ (h.1 q)) (fun q => hk _ _ _ _ (h.2 q))
    · exact h.elim
  · cases ho
theorem s_if {J : Jt} {pc z : Nat} {i : Instr} {k : Lc → List Value → Mm → Ml → Prop} {ls : Lc} {st : List Value} {M : Mm} {L : Ml} {cd : ClassFile.Cond} {t : Int} (hd : decode (mC n) pc = .ok (i, z)) (ho : okI n pc i z (.ifCond cd t) = true) (h : sx J (Runs n d Q) (CallOk d) Q (.ifCond cd t) k ls st M L) (hJ : ∀ pc ls st M L, J pc ls st M L → Runs n d Q pc ls st M L) (hk : ∀ ls st M L, k ls st M L → Runs n d Q (pc + z) ls st M L) : Runs n d Q pc ls st M L := by
  simp only [sx] at h
  unfold okI at ho
  dsimp only at ho
  split at ho
  · obtain ⟨e1, e2, e3, e4⟩ := of_decide_eq_true ho
    subst e1; subst e4
    split at h
    · exact r_if hd (by omega) (fun q => hJ _ _ _ _ _ (h.1 q)) (fun q => hk _ _ _ _ (h.2 q))
    · exact h.elim
  · cases ho
theorem s_goto {J : Jt} {pc z : Nat} {i : Instr} {k : Lc → List Value → Mm → Ml → Prop} {ls : Lc} {st : List Value} {M : Mm} {L : Ml} {t : Int} (hd : decode (mC n) pc = .ok (i, z)) (ho : okI n pc i z (.goto t) = true) (h : sx J (Runs n d Q) (CallOk d) Q (.goto t) k ls st M L) (hJ : ∀ pc ls st M L, J pc ls st M L → Runs n d Q pc ls st M L) (hk : ∀ ls st M L, k ls st M L → Runs n d Q (pc + z) ls st M L) : Runs n d Q pc ls st M L := by
  simp only [sx] at h
  unfold okI at ho
  dsimp only at ho
  split at ho
  · obtain ⟨e2, e3, e4⟩ := of_decide_eq_true ho
    exact r_goto (t := t.toNat) (by rw [hd, e4]) (by omega) (hJ _ _ _ _ _ h)
  · cases ho
theorem s_switch {J : Jt} {pc z : Nat} {i : Instr} {k : Lc → List Value → Mm → Ml → Prop} {ls : Lc} {st : List Value} {M : Mm} {L : Ml} {dd : Int} {ps : Array (Int × Int)} (hd : decode (mC n) pc = .ok (i, z)) (ho : okI n pc i z (.lookupswitch dd ps) = true) (h : sx J (Runs n d Q) (CallOk d) Q (.lookupswitch dd ps) k ls st M L) (hJ : ∀ pc ls st M L, J pc ls st M L → Runs n d Q pc ls st M L) (hk : ∀ ls st M L, k ls st M L → Runs n d Q (pc + z) ls st M L) : Runs n d Q pc ls st M L := by
  simp only [sx] at h
  unfold okI at ho
  dsimp only at ho
  split at ho
  · rw [Bool.and_eq_true] at ho
    obtain ⟨e1, e2⟩ := ho
    split at h
    · exact r_table hd (of_decide_eq_true e1) e2 (sw_mono (fun t q => hJ _ _ _ _ _ q) h)
    · exact h.elim
  · rw [Bool.and_eq_true, Bool.and_eq_true] at ho
    obtain ⟨⟨e1, e2⟩, e3⟩ := ho
    split at h
    · exact r_look hd (of_decide_eq_true e1) e2 e3 (sw_mono (fun t q => hJ _ _ _ _ _ q) h)
    · exact h.elim
  · cases ho
theorem s_getI {J : Jt} {pc z : Nat} {i : Instr} {k : Lc → List Value → Mm → Ml → Prop} {ls : Lc} {st : List Value} {M : Mm} {L : Ml} {q : Nat} (hd : decode (mC n) pc = .ok (i, z)) (ho : okI n pc i z (.getfield q) = true) (h : sx J (Runs n d Q) (CallOk d) Q (.getfield q) k ls st M L) (hJ : ∀ pc ls st M L, J pc ls st M L → Runs n d Q pc ls st M L) (hk : ∀ ls st M L, k ls st M L → Runs n d Q (pc + z) ls st M L) : Runs n d Q pc ls st M L := by
  simp only [sx] at h
  unfold okI at ho
  dsimp only at ho
  split at ho
  · rw [Bool.and_eq_true] at ho
    obtain ⟨e1, e2⟩ := of_decide_eq_true ho.1
    subst e1
    split at h
    · exact r_getI hd (fIs_ok ho.2) e2 h.1 (hk _ _ _ _ h.2)
    · exact h.elim
  · cases ho
theorem s_getR {J : Jt} {pc z : Nat} {i : Instr} {k : Lc → List Value → Mm → Ml → Prop} {ls : Lc} {st : List Value} {M : Mm} {L : Ml} {q : Nat} (hd : decode (mC n) pc = .ok (i, z)) (ho : okI n pc i z (.getstatic q) = true) (h : sx J (Runs n d Q) (CallOk d) Q (.getstatic q) k ls st M L) (hJ : ∀ pc ls st M L, J pc ls st M L → Runs n d Q pc ls st M L) (hk : ∀ ls st M L, k ls st M L → Runs n d Q (pc + z) ls st M L) : Runs n d Q pc ls st M L := by
  simp only [sx] at h
  unfold okI at ho
  dsimp only at ho
  split at ho
  · rw [Bool.and_eq_true] at ho
    obtain ⟨e1, e2⟩ := of_decide_eq_true ho.1
    subst e1
    split at h
    · exact r_getR hd (fIs_ok ho.2) e2 h.1 (hk _ _ _ _ h.2)
    · exact h.elim
  · cases ho
theorem s_getL {J : Jt} {pc z : Nat} {i : Instr} {k : Lc → List Value → Mm → Ml → Prop} {ls : Lc} {st : List Value} {M : Mm} {L : Ml} {q : Nat} (hd : decode (mC n) pc = .ok (i, z)) (ho : okI n pc i z (.instanceof q) = true) (h : sx J (Runs n d Q) (CallOk d) Q (.instanceof q) k ls st M L) (hJ : ∀ pc ls st M L, J pc ls st M L → Runs n d Q pc ls st M L) (hk : ∀ ls st M L, k ls st M L → Runs n d Q (pc + z) ls st M L) : Runs n d Q pc ls st M L := by
  simp only [sx] at h
  unfold okI at ho
  dsimp only at ho
  split at ho
  · rw [Bool.and_eq_true] at ho
    obtain ⟨e1, e2⟩ := of_decide_eq_true ho.1
    subst e1
    split at h
    · exact r_getL hd (fIs_ok ho.2) e2 h.1 (hk _ _ _ _ h.2)
    · exact h.elim
  · cases ho
theorem s_putI {J : Jt} {pc z : Nat} {i : Instr} {k : Lc → List Value → Mm → Ml → Prop} {ls : Lc} {st : List Value} {M : Mm} {L : Ml} {q : Nat} (hd : decode (mC n) pc = .ok (i, z)) (ho : okI n pc i z (.putfield q) = true) (h : sx J (Runs n d Q) (CallOk d) Q (.putfield q) k ls st M L) (hJ : ∀ pc ls st M L, J pc ls st M L → Runs n d Q pc ls st M L) (hk : ∀ ls st M L, k ls st M L → Runs n d Q (pc + z) ls st M L) : Runs n d Q pc ls st M L := by
  simp only [sx] at h
  unfold okI at ho
  dsimp only at ho
  split at ho
  · rw [Bool.and_eq_true] at ho
    obtain ⟨e1, e2⟩ := of_decide_eq_true ho.1
    subst e1
    split at h
    · exact r_putI hd (fIs_ok ho.2) (Or.inl e2) h.1 (hk _ _ _ _ h.2)
    · exact h.elim
  · cases ho
theorem s_putZ {J : Jt} {pc z : Nat} {i : Instr} {k : Lc → List Value → Mm → Ml → Prop} {ls : Lc} {st : List Value} {M : Mm} {L : Ml} {q : Nat} (hd : decode (mC n) pc = .ok (i, z)) (ho : okI n pc i z (.new q) = true) (h : sx J (Runs n d Q) (CallOk d) Q (.new q) k ls st M L) (hJ : ∀ pc ls st M L, J pc ls st M L → Runs n d Q pc ls st M L) (hk : ∀ ls st M L, k ls st M L → Runs n d Q (pc + z) ls st M L) : Runs n d Q pc ls st M L := by
  simp only [sx] at h
  unfold okI at ho
  dsimp only at ho
  split at ho
  · rw [Bool.and_eq_true] at ho
    obtain ⟨e1, e2⟩ := of_decide_eq_true ho.1
    subst e1
    split at h
    · exact r_putI hd (fIs_ok ho.2) (Or.inr ⟨e2, h.2.1⟩) h.1 (hk _ _ _ _ h.2.2)
    · exact h.elim
  · cases ho
theorem s_putL {J : Jt} {pc z : Nat} {i : Instr} {k : Lc → List Value → Mm → Ml → Prop} {ls : Lc} {st : List Value} {M : Mm} {L : Ml} {q : Nat} (hd : decode (mC n) pc = .ok (i, z)) (ho : okI n pc i z (.putstatic q) = true) (h : sx J (Runs n d Q) (CallOk d) Q (.putstatic q) k ls st M L) (hJ : ∀ pc ls st M L, J pc ls st M L → Runs n d Q pc ls st M L) (hk : ∀ ls st M L, k ls st M L → Runs n d Q (pc + z) ls st M L) : Runs n d Q pc ls st M L := by
  simp only [sx] at h
  unfold okI at ho
  dsimp only at ho
  split at ho
  · rw [Bool.and_eq_true] at ho
    obtain ⟨e1, e2⟩ := of_decide_eq_true ho.1
    subst e1
    split at h
    · exact r_putL hd (fIs_ok ho.2) e2 h.1 (hk _ _ _ _ h.2)
    · exact h.elim
  · cases ho
theorem s_iald {J : Jt} {pc z : Nat} {i : Instr} {k : Lc → List Value → Mm → Ml → Prop} {ls : Lc} {st : List Value} {M : Mm} {L : Ml} (hd : decode (mC n) pc = .ok (i, z)) (ho : okI n pc i z .iaload = true) (h : sx J (Runs n d Q) (CallOk d) Q .iaload k ls st M L) (hJ : ∀ pc ls st M L, J pc ls st M L → Runs n d Q pc ls st M L) (hk : ∀ ls st M L, k ls st M L → Runs n d Q (pc + z) ls st M L) : Runs n d Q pc ls st M L := by
  obtain ⟨e1, e2⟩ := of_decide_eq_true ho
  subst e1; subst e2
  simp only [sx] at h
  split at h
  · obtain ⟨h1, j, rfl, h2, h3⟩ := h
    exact r_iald hd h1 h2 (hk _ _ _ _ h3)
  · exact h.elim
theorem s_bald {J : Jt} {pc z : Nat} {i : Instr} {k : Lc → List Value → Mm → Ml → Prop} {ls : Lc} {st : List Value} {M : Mm} {L : Ml} (hd : decode (mC n) pc = .ok (i, z)) (ho : okI n pc i z .baload = true) (h : sx J (Runs n d Q) (CallOk d) Q .baload k ls st M L) (hJ : ∀ pc ls st M L, J pc ls st M L → Runs n d Q pc ls st M L) (hk : ∀ ls st M L, k ls st M L → Runs n d Q (pc + z) ls st M L) : Runs n d Q pc ls st M L := by
  obtain ⟨e1, e2⟩ := of_decide_eq_true ho
  subst e1; subst e2
  simp only [sx] at h
  split at h
  · obtain ⟨h1, j, rfl, h2, h3⟩ := h
    exact r_bald hd h1 h2 (hk _ _ _ _ h3)
  · exact h.elim
theorem s_zald {J : Jt} {pc z : Nat} {i : Instr} {k : Lc → List Value → Mm → Ml → Prop} {ls : Lc} {st : List Value} {M : Mm} {L : Ml} (hd : decode (mC n) pc = .ok (i, z)) (ho : okI n pc i z .caload = true) (h : sx J (Runs n d Q) (CallOk d) Q .caload k ls st M L) (hJ : ∀ pc ls st M L, J pc ls st M L → Runs n d Q pc ls st M L) (hk : ∀ ls st M L, k ls st M L → Runs n d Q (pc + z) ls st M L) : Runs n d Q pc ls st M L := by
  obtain ⟨e1, e2⟩ := of_decide_eq_true ho
  subst e1; subst e2
  simp only [sx] at h
  split at h
  · obtain ⟨h1, j, rfl, h2, h3⟩ := h
    exact r_zald hd h1 h2 (hk _ _ _ _ h3)
  · exact h.elim
theorem s_aald {J : Jt} {pc z : Nat} {i : Instr} {k : Lc → List Value → Mm → Ml → Prop} {ls : Lc} {st : List Value} {M : Mm} {L : Ml} (hd : decode (mC n) pc = .ok (i, z)) (ho : okI n pc i z .aaload = true) (h : sx J (Runs n d Q) (CallOk d) Q .aaload k ls st M L) (hJ : ∀ pc ls st M L, J pc ls st M L → Runs n d Q pc ls st M L) (hk : ∀ ls st M L, k ls st M L → Runs n d Q (pc + z) ls st M L) : Runs n d Q pc ls st M L := by
  obtain ⟨e1, e2⟩ := of_decide_eq_true ho
  subst e1; subst e2
  simp only [sx] at h
  split at h
  · obtain ⟨h1, j, rfl, h2, h3⟩ := h
    exact r_aald hd h1 h2 (hk _ _ _ _ h3)
  · exact h.elim
theorem s_iast {J : Jt} {pc z : Nat} {i : Instr} {k : Lc → List Value → Mm → Ml → Prop} {ls : Lc} {st : List Value} {M : Mm} {L : Ml} (hd : decode (mC n) pc = .ok (i, z)) (ho : okI n pc i z .iastore = true) (h : sx J (Runs n d Q) (CallOk d) Q .iastore k ls st M L) (hJ : ∀ pc ls st M L, J pc ls st M L → Runs n d Q pc ls st M L) (hk : ∀ ls st M L, k ls st M L → Runs n d Q (pc + z) ls st M L) : Runs n d Q pc ls st M L := by
  obtain ⟨e1, e2⟩ := of_decide_eq_true ho
  subst e1; subst e2
  simp only [sx] at h
  split at h
  · obtain ⟨h1, j, rfl, h2, h3⟩ := h
    exact r_iast hd h1 h2 (hk _ _ _ _ h3)
  · exact h.elim
theorem s_bast {J : Jt} {pc z : Nat} {i : Instr} {k : Lc → List Value → Mm → Ml → Prop} {ls : Lc} {st : List Value} {M : Mm} {L : Ml} (hd : decode (mC n) pc = .ok (i, z)) (ho : okI n pc i z .bastore = true) (h : sx J (Runs n d Q) (CallOk d) Q .bastore k ls st M L) (hJ : ∀ pc ls st M L, J pc ls st M L → Runs n d Q pc ls st M L) (hk : ∀ ls st M L, k ls st M L → Runs n d Q (pc + z) ls st M L) : Runs n d Q pc ls st M L := by
  obtain ⟨e1, e2⟩ := of_decide_eq_true ho
  subst e1; subst e2
  simp only [sx] at h
  split at h
  · obtain ⟨h1, j, rfl, h2, h3⟩ := h
    exact r_bast hd h1 h2 (hk _ _ _ _ h3)
  · exact h.elim
theorem s_zast {J : Jt} {pc z : Nat} {i : Instr} {k : Lc → List Value → Mm → Ml → Prop} {ls : Lc} {st : List Value} {M : Mm} {L : Ml} (hd : decode (mC n) pc = .ok (i, z)) (ho : okI n pc i z .castore = true) (h : sx J (Runs n d Q) (CallOk d) Q .castore k ls st M L) (hJ : ∀ pc ls st M L, J pc ls st M L → Runs n d Q pc ls st M L) (hk : ∀ ls st M L, k ls st M L → Runs n d Q (pc + z) ls st M L) : Runs n d Q pc ls st M L := by
  obtain ⟨e1, e2⟩ := of_decide_eq_true ho
  subst e1; subst e2
  simp only [sx] at h
  split at h
  · obtain ⟨h1, h0, j, rfl, h2, h3⟩ := h
    exact r_zast hd h1 h0 h2 (hk _ _ _ _ h3)
  · exact h.elim
theorem s_sald {J : Jt} {pc z : Nat} {i : Instr} {k : Lc → List Value → Mm → Ml → Prop} {ls : Lc} {st : List Value} {M : Mm} {L : Ml} (hd : decode (mC n) pc = .ok (i, z)) (ho : okI n pc i z .saload = true) (h : sx J (Runs n d Q) (CallOk d) Q .saload k ls st M L) (hJ : ∀ pc ls st M L, J pc ls st M L → Runs n d Q pc ls st M L) (hk : ∀ ls st M L, k ls st M L → Runs n d Q (pc + z) ls st M L) : Runs n d Q pc ls st M L := by
  obtain ⟨e1, e2⟩ := of_decide_eq_true ho
  subst e1; subst e2
  simp only [sx] at h
  split at h
  · obtain ⟨rfl, j, rfl, h2, h3⟩ := h
    exact r_sald hd h2 (hk _ _ _ _ h3)
  · exact h.elim
theorem s_slen {J : Jt} {pc z : Nat} {i : Instr} {k : Lc → List Value → Mm → Ml → Prop} {ls : Lc} {st : List Value} {M : Mm} {L : Ml} (hd : decode (mC n) pc = .ok (i, z)) (ho : okI n pc i z .arraylength = true) (h : sx J (Runs n d Q) (CallOk d) Q .arraylength k ls st M L) (hJ : ∀ pc ls st M L, J pc ls st M L → Runs n d Q pc ls st M L) (hk : ∀ ls st M L, k ls st M L → Runs n d Q (pc + z) ls st M L) : Runs n d Q pc ls st M L := by
  obtain ⟨e1, e2⟩ := of_decide_eq_true ho
  subst e1; subst e2
  simp only [sx] at h
  split at h
  · obtain ⟨rfl, h3⟩ := h
    exact r_slen hd (hk _ _ _ _ h3)
  · exact h.elim
theorem CallOk_mono {d n : Nat} {as : List Value} {M : Mm} {L : Ml} {Q Q' : Qt} (h : CallOk d n as M L Q) (hq : ∀ r M L, Q r M L → Q' r M L) : CallOk d n as M L Q' := by
  obtain ⟨d', h1, h2⟩ := h
  refine ⟨d', h1, fun l w hw => ?_⟩
  have h3 := h2 l w hw
  unfold Met MetFree at h3 ⊢
  intro p e q1 q2 q3 s m args below q4 q5 q6 q7
  obtain ⟨k, o, g1, g2, g3, ⟨⟨⟨r, M', L', e1, e2, e3⟩, e4⟩, g5⟩⟩ := h3 p e q1 q2 q3 s m args below q4 q5 q6 q7
  exact ⟨k, o, g1, g2, g3, ⟨⟨⟨r, M', L', e1, hq _ _ _ e2, e3⟩, e4⟩, g5⟩⟩
theorem s_callV {J : Jt} {pc z : Nat} {i : Instr} {k : Lc → List Value → Mm → Ml → Prop} {ls : Lc} {st : List Value} {M : Mm} {L : Ml} {m y : Nat} (hd : decode (mC n) pc = .ok (i, z)) (ho : okI n pc i z (.invokeinterface m y) = true) (h : sx J (Runs n d Q) (CallOk d) Q (.invokeinterface m y) k ls st M L) (hJ : ∀ pc ls st M L, J pc ls st M L → Runs n d Q pc ls st M L) (hk : ∀ ls st M L, k ls st M L → Runs n d Q (pc + z) ls st M L) : Runs n d Q pc ls st M L := by
  simp only [sx] at h
  obtain ⟨h0, h1, h2, h3⟩ := h
  unfold okI at ho
  dsimp only at ho
  split at ho
  · rw [Bool.and_eq_true, Bool.and_eq_true] at ho
    obtain ⟨⟨e1, e2⟩, e3⟩ := ho
    obtain ⟨e4, e5, e6, e7⟩ := of_decide_eq_true e1
    subst e4
    rcases Nat.lt_or_ge st.length (y % 16) with q | q
    · rw [rt_short _ _ _ q] at h0
      exact absurd h0 (by simp; omega)
    · obtain ⟨g1, -, g3⟩ := rt_app (y % 16) [] st q
      generalize hA : rt (y % 16) [] st = as at g1 g3 h1 h3
      cases as with
      | nil => exact h1.elim
      | cons v As =>
        cases v <;> first | exact h1.elim | skip
        rename_i b
        refine r_callV (b := b) (As := As) (rest := dr (y % 16) st) hd e5 (any_nRows e2) e3 (h1.trans e7) (by have : As.length + 1 = y % 16 := g3; omega) ?_ h2 (CallOk_mono h3 fun r M L hq => hk _ _ _ _ hq)
        rw [List.reverse_cons, List.append_assoc] at g1
        exact g1
  · cases ho
theorem s_callS {J : Jt} {pc z : Nat} {i : Instr} {k : Lc → List Value → Mm → Ml → Prop} {ls : Lc} {st : List Value} {M : Mm} {L : Ml} {m y : Nat} (hd : decode (mC n) pc = .ok (i, z)) (ho : okI n pc i z (.multianewarray m y) = true) (h : sx J (Runs n d Q) (CallOk d) Q (.multianewarray m y) k ls st M L) (hJ : ∀ pc ls st M L, J pc ls st M L → Runs n d Q pc ls st M L) (hk : ∀ ls st M L, k ls st M L → Runs n d Q (pc + z) ls st M L) : Runs n d Q pc ls st M L := by
  simp only [sx] at h
  obtain ⟨h0, h2, h3⟩ := h
  unfold okI at ho
  dsimp only at ho
  split at ho
  · rw [Bool.and_eq_true, Bool.and_eq_true] at ho
    obtain ⟨⟨e1, e2⟩, e3⟩ := ho
    obtain ⟨e4, e5, e6⟩ := of_decide_eq_true e1
    subst e4
    rcases Nat.lt_or_ge st.length y with q | q
    · rw [rt_short _ _ _ q] at h0
      exact absurd h0 (by simp; omega)
    · obtain ⟨g1, -, g3⟩ := rt_app y [] st q
      refine r_callS (As := rt y [] st) (rest := dr y st) hd e5 (any_nRows e2) e3 (g3.trans e6) g1 h2 (CallOk_mono h3 fun r M L hq => hk _ _ _ _ hq)
  · cases ho
theorem s_cpy {J : Jt} {pc z : Nat} {i : Instr} {k : Lc → List Value → Mm → Ml → Prop} {ls : Lc} {st : List Value} {M : Mm} {L : Ml} {q : Nat} (hd : decode (mC n) pc = .ok (i, z)) (ho : okI n pc i z (.checkcast q) = true) (h : sx J (Runs n d Q) (CallOk d) Q (.checkcast q) k ls st M L) (hJ : ∀ pc ls st M L, J pc ls st M L → Runs n d Q pc ls st M L) (hk : ∀ ls st M L, k ls st M L → Runs n d Q (pc + z) ls st M L) : Runs n d Q pc ls st M L := by
  simp only [sx] at h
  unfold okI at ho
  dsimp only at ho
  split at ho
  · obtain ⟨e1, e2, e3⟩ := of_decide_eq_true ho
    subst e1
    split at h
    · obtain ⟨h1, h2, a1, a2, a3, rfl, rfl, rfl, h3, h4, h5⟩ := h
      exact r_cpy hd ⟨e2, e3⟩ h1 h2 h3 h4 (hk _ _ _ _ h5)
    · exact h.elim
  · cases ho
theorem s_mmax {J : Jt} {pc z : Nat} {i : Instr} {k : Lc → List Value → Mm → Ml → Prop} {ls : Lc} {st : List Value} {M : Mm} {L : Ml} (hd : decode (mC n) pc = .ok (i, z)) (ho : okI n pc i z .dmul = true) (h : sx J (Runs n d Q) (CallOk d) Q .dmul k ls st M L) (hJ : ∀ pc ls st M L, J pc ls st M L → Runs n d Q pc ls st M L) (hk : ∀ ls st M L, k ls st M L → Runs n d Q (pc + z) ls st M L) : Runs n d Q pc ls st M L := by
  simp only [sx] at h
  unfold okI at ho
  dsimp only at ho
  split at ho
  · obtain ⟨e1, e2, e3⟩ := of_decide_eq_true ho
    subst e1
    split at h
    · exact r_mmax hd ⟨e2, e3⟩ (hk _ _ _ _ h)
    · exact h.elim
  · cases ho
theorem s_mmin {J : Jt} {pc z : Nat} {i : Instr} {k : Lc → List Value → Mm → Ml → Prop} {ls : Lc} {st : List Value} {M : Mm} {L : Ml} (hd : decode (mC n) pc = .ok (i, z)) (ho : okI n pc i z .ddiv = true) (h : sx J (Runs n d Q) (CallOk d) Q .ddiv k ls st M L) (hJ : ∀ pc ls st M L, J pc ls st M L → Runs n d Q pc ls st M L) (hk : ∀ ls st M L, k ls st M L → Runs n d Q (pc + z) ls st M L) : Runs n d Q pc ls st M L := by
  simp only [sx] at h
  unfold okI at ho
  dsimp only at ho
  split at ho
  · obtain ⟨e1, e2, e3⟩ := of_decide_eq_true ho
    subst e1
    split at h
    · exact r_mmin hd ⟨e2, e3⟩ (hk _ _ _ _ h)
    · exact h.elim
  · cases ho
theorem s_ireturn {J : Jt} {pc z : Nat} {i : Instr} {k : Lc → List Value → Mm → Ml → Prop} {ls : Lc} {st : List Value} {M : Mm} {L : Ml} (hd : decode (mC n) pc = .ok (i, z)) (ho : okI n pc i z .ireturn = true) (h : sx J (Runs n d Q) (CallOk d) Q .ireturn k ls st M L) (hJ : ∀ pc ls st M L, J pc ls st M L → Runs n d Q pc ls st M L) (hk : ∀ ls st M L, k ls st M L → Runs n d Q (pc + z) ls st M L) : Runs n d Q pc ls st M L := by
  obtain ⟨e1, e2, e3⟩ := of_decide_eq_true ho
  subst e1; subst e2
  simp only [sx] at h
  split at h
  · rename_i v
    exact r_ret (r := some (.int v)) h ⟨hd, Or.inl e3⟩
  · exact h.elim
theorem s_lreturn {J : Jt} {pc z : Nat} {i : Instr} {k : Lc → List Value → Mm → Ml → Prop} {ls : Lc} {st : List Value} {M : Mm} {L : Ml} (hd : decode (mC n) pc = .ok (i, z)) (ho : okI n pc i z .lreturn = true) (h : sx J (Runs n d Q) (CallOk d) Q .lreturn k ls st M L) (hJ : ∀ pc ls st M L, J pc ls st M L → Runs n d Q pc ls st M L) (hk : ∀ ls st M L, k ls st M L → Runs n d Q (pc + z) ls st M L) : Runs n d Q pc ls st M L := by
  obtain ⟨e1, e2, e3⟩ := of_decide_eq_true ho
  subst e1; subst e2
  simp only [sx] at h
  split at h
  · rename_i v
    exact r_ret (r := some (.long v)) h ⟨hd, e3⟩
  · exact h.elim
theorem s_areturn {J : Jt} {pc z : Nat} {i : Instr} {k : Lc → List Value → Mm → Ml → Prop} {ls : Lc} {st : List Value} {M : Mm} {L : Ml} (hd : decode (mC n) pc = .ok (i, z)) (ho : okI n pc i z .areturn = true) (h : sx J (Runs n d Q) (CallOk d) Q .areturn k ls st M L) (hJ : ∀ pc ls st M L, J pc ls st M L → Runs n d Q pc ls st M L) (hk : ∀ ls st M L, k ls st M L → Runs n d Q (pc + z) ls st M L) : Runs n d Q pc ls st M L := by
  obtain ⟨e1, e2, e3⟩ := of_decide_eq_true ho
  subst e1; subst e2
  simp only [sx] at h
  split at h
  · rename_i v
    exact r_ret (r := some (.ref v)) h ⟨hd, e3⟩
  · exact h.elim
theorem s_zreturn {J : Jt} {pc z : Nat} {i : Instr} {k : Lc → List Value → Mm → Ml → Prop} {ls : Lc} {st : List Value} {M : Mm} {L : Ml} (hd : decode (mC n) pc = .ok (i, z)) (ho : okI n pc i z .freturn = true) (h : sx J (Runs n d Q) (CallOk d) Q .freturn k ls st M L) (hJ : ∀ pc ls st M L, J pc ls st M L → Runs n d Q pc ls st M L) (hk : ∀ ls st M L, k ls st M L → Runs n d Q (pc + z) ls st M L) : Runs n d Q pc ls st M L := by
  obtain ⟨e1, e2, e3⟩ := of_decide_eq_true ho
  subst e1; subst e2
  simp only [sx] at h
  split at h
  · rename_i v
    exact r_ret (r := some (.int v)) h.2 ⟨hd, Or.inr ⟨e3, h.1⟩⟩
  · exact h.elim
theorem s_vreturn {J : Jt} {pc z : Nat} {i : Instr} {k : Lc → List Value → Mm → Ml → Prop} {ls : Lc} {st : List Value} {M : Mm} {L : Ml} (hd : decode (mC n) pc = .ok (i, z)) (ho : okI n pc i z .return_ = true) (h : sx J (Runs n d Q) (CallOk d) Q .return_ k ls st M L) (hJ : ∀ pc ls st M L, J pc ls st M L → Runs n d Q pc ls st M L) (hk : ∀ ls st M L, k ls st M L → Runs n d Q (pc + z) ls st M L) : Runs n d Q pc ls st M L := by
  obtain ⟨e1, e2, e3⟩ := of_decide_eq_true ho
  subst e1; subst e2
  simp only [sx] at h
  split at h
  · exact r_ret (r := none) h ⟨hd, e3⟩
  · exact h.elim
theorem blk {J : Jt} (hJ : ∀ pc ls st M L, J pc ls st M L → Runs n d Q pc ls st M L) : ∀ (os : List Instr) (pc : Nat) (ls : Lc) (st : List Value) (M : Mm) (L : Ml), okB n pc os = true → wp J (Runs n d Q) (CallOk d) Q os ls st M L → Runs n d Q pc ls st M L
  | [], _, _, _, _, _, _, h => h.elim
  | o :: os, pc, ls, st, M, L, ho, h => by
    by_cases hret : ∃ t, o = .ret t
    · obtain ⟨t, rfl⟩ := hret
      have e : t = pc := of_decide_eq_true ho
      subst e
      exact h
    · have ho' : (match decode (mC n) pc with | .ok (i, z) => okI n pc i z o && okB n (pc + z) os | _ => false) = true := by
        unfold okB at ho
        split at ho
        · exact absurd ⟨_, rfl⟩ hret
        · exact ho
      split at ho'
      · rename_i i z hd
        rw [Bool.and_eq_true] at ho'
        obtain ⟨h1, h2⟩ := ho'
        have hk : ∀ ls st M L, wp J (Runs n d Q) (CallOk d) Q os ls st M L → Runs n d Q (pc + z) ls st M L := fun ls st M L hw => blk hJ os (pc + z) ls st M L h2 hw
        have h3 : sx J (Runs n d Q) (CallOk d) Q o (wp J (Runs n d Q) (CallOk d) Q os) ls st M L := h
        clear h ho
        cases o with
        | ret t => exact absurd ⟨_, rfl⟩ hret
        | iconst v => exact s_iconst hd h1 h3 hJ hk
        | jsr v => exact s_lcst hd h1 h3 hJ hk
        | iload q => exact s_iload hd h1 h3 hJ hk
        | lload q => exact s_lload hd h1 h3 hJ hk
        | aload q => exact s_aload hd h1 h3 hJ hk
        | istore q => exact s_istore hd h1 h3 hJ hk
        | lstore q => exact s_lstore hd h1 h3 hJ hk
        | astore q => exact s_astore hd h1 h3 hJ hk
        | iinc q v => exact s_iinc hd h1 h3 hJ hk
        | iadd => exact s_iadd hd h1 h3 hJ hk
        | isub => exact s_isub hd h1 h3 hJ hk
        | imul => exact s_imul hd h1 h3 hJ hk
        | iand => exact s_iand hd h1 h3 hJ hk
        | ior => exact s_ior hd h1 h3 hJ hk
        | ixor => exact s_ixor hd h1 h3 hJ hk
        | ishl => exact s_ishl hd h1 h3 hJ hk
        | ishr => exact s_ishr hd h1 h3 hJ hk
        | iushr => exact s_iushr hd h1 h3 hJ hk
        | idiv => exact s_idiv hd h1 h3 hJ hk
        | irem => exact s_irem hd h1 h3 hJ hk
        | ldiv => exact s_ldiv hd h1 h3 hJ hk
        | lrem => exact s_lrem hd h1 h3 hJ hk
        | ineg => exact s_ineg hd h1 h3 hJ hk
        | ladd => exact s_ladd hd h1 h3 hJ hk
        | lsub => exact s_lsub hd h1 h3 hJ hk
        | lmul => exact s_lmul hd h1 h3 hJ hk
        | lcmp => exact s_lcmp hd h1 h3 hJ hk
        | i2l => exact s_i2l hd h1 h3 hJ hk
        | l2i => exact s_l2i hd h1 h3 hJ hk
        | i2b => exact s_i2b hd h1 h3 hJ hk
        | i2s => exact s_i2s hd h1 h3 hJ hk
        | dup => exact s_dup hd h1 h3 hJ hk
        | pop => exact s_pop hd h1 h3 hJ hk
        | dup2 => exact s_dup2 hd h1 h3 hJ hk
        | if_icmp c t => exact s_icmp hd h1 h3 hJ hk
        | ifCond c t => exact s_if hd h1 h3 hJ hk
        | goto t => exact s_goto hd h1 h3 hJ hk
        | lookupswitch a b => exact s_switch hd h1 h3 hJ hk
        | getfield q => exact s_getI hd h1 h3 hJ hk
        | getstatic q => exact s_getR hd h1 h3 hJ hk
        | instanceof q => exact s_getL hd h1 h3 hJ hk
        | putfield q => exact s_putI hd h1 h3 hJ hk
        | new q => exact s_putZ hd h1 h3 hJ hk
        | putstatic q => exact s_putL hd h1 h3 hJ hk
        | iaload => exact s_iald hd h1 h3 hJ hk
        | baload => exact s_bald hd h1 h3 hJ hk
        | caload => exact s_zald hd h1 h3 hJ hk
        | aaload => exact s_aald hd h1 h3 hJ hk
        | iastore => exact s_iast hd h1 h3 hJ hk
        | bastore => exact s_bast hd h1 h3 hJ hk
        | castore => exact s_zast hd h1 h3 hJ hk
        | saload => exact s_sald hd h1 h3 hJ hk
        | arraylength => exact s_slen hd h1 h3 hJ hk
        | invokeinterface a b => exact s_callV hd h1 h3 hJ hk
        | multianewarray a b => exact s_callS hd h1 h3 hJ hk
        | checkcast q => exact s_cpy hd h1 h3 hJ hk
        | dmul => exact s_mmax hd h1 h3 hJ hk
        | ddiv => exact s_mmin hd h1 h3 hJ hk
        | ireturn => exact s_ireturn hd h1 h3 hJ hk
        | lreturn => exact s_lreturn hd h1 h3 hJ hk
        | areturn => exact s_areturn hd h1 h3 hJ hk
        | freturn => exact s_zreturn hd h1 h3 hJ hk
        | return_ => exact s_vreturn hd h1 h3 hJ hk
        | _ => exact False.elim h3
      · cases ho'
/-! blocks by their numbers; wpN goes through jumps, up to the cut points -/
abbrev Bt : Type := List (Nat × List Instr)
def tb : Bt → Nat → List Instr
  | [], _ => []
  | (p, b) :: t, pc => if p = pc then b else tb t pc
def okT (n : Nat) (t : Bt) : Bool := t.all (fun q => okB n q.1 q.2)
def wpN (n d : Nat) (t : Bt) (Q : Qt) : Nat → Jt
  | 0 => Runs n d Q
  | f + 1 => fun pc ls st M L => wp (wpN n d t Q f) (Runs n d Q) (CallOk d) Q (tb t pc) ls st M L
theorem tb_ok {t : Bt} (ht : okT n t = true) (pc : Nat) : okB n pc (tb t pc) = true := by
  induction t with
  | nil => rfl
  | cons q t ih =>
    unfold okT at ht
    rw [List.all_cons, Bool.and_eq_true] at ht
    unfold tb
    by_cases h : q.1 = pc
    · rw [if_pos h, ← h]
      exact ht.1
    · rw [if_neg h]
      exact ih ht.2
theorem wpN_runs {t : Bt} (ht : okT n t = true) : ∀ (f pc : Nat) (ls : Lc) (st : List Value) (M : Mm) (L : Ml), wpN n d t Q f pc ls st M L → Runs n d Q pc ls st M L
  | 0, _, _, _, _, _, h => h
  | f + 1, pc, ls, st, M, L, h => blk (fun pc ls st M L h => wpN_runs ht f pc ls st M L h) (tb t pc) pc ls st M L (tb_ok ht pc) h
/-- from a cut point on: its own block, hb -/
theorem wpH_runs {t : Bt} (ht : okT n t = true) {b : List Instr} (f pc : Nat) (hb : okB n pc b = true) {ls : Lc} {st : List Value} {M : Mm} {L : Ml} (h : wp (wpN n d t Q f) (Runs n d Q) (CallOk d) Q b ls st M L) : Runs n d Q pc ls st M L :=
  blk (fun pc ls st M L h => wpN_runs ht f pc ls st M L h) b pc ls st M L hb h
/-! a method from its entry -/
def le : List Value → Lc
  | [] => []
  | .long x :: vs => some (.long x) :: none :: le vs
  | v :: vs => some v :: le vs
def noDb : List Value → Bool
  | [] => true
  | .double _ :: _ => false
  | _ :: vs => noDb vs
def wd : List Value → Nat
  | [] => 0
  | v :: vs => v.category + wd vs
theorem le_args (w : Wc) : ∀ (as : List Value) (j : Nat) (x : Lc), noDb as = true → (∀ y ∈ x, y = none) → ∀ q ∈ lsA w j (le as ++ x), q ∈ lv_args j (as.map (up w))
  | [], j, x, _, hx, q, hq => by
    exfalso
    have : ∀ (x : Lc) (j : Nat), (∀ y ∈ x, y = none) → lsA w j x = [] := by
      intro x
      induction x with
      | nil => intro j _; rfl
      | cons y t ih =>
        intro j h
        rw [h y List.mem_cons_self]
        exact ih (j + 1) (fun z hz => h z (List.mem_cons_of_mem _ hz))
    rw [show le [] ++ x = x from rfl, this x j hx] at hq
    cases hq
  | v :: vs, j, x, hn, hx, q, hq => by
    cases v with
    | double b => cases hn
    | long b =>
      rcases List.mem_cons.mp (show q ∈ (j, up w (.long b)) :: lsA w (j + 1 + 1) (le vs ++ x) from hq) with h | h
      · rw [h]; exact List.mem_cons_self
      · exact List.mem_cons_of_mem _ (le_args w vs (j + 2) x hn hx q h)
    | int b =>
      rcases List.mem_cons.mp (show q ∈ (j, up w (.int b)) :: lsA w (j + 1) (le vs ++ x) from hq) with h | h
      · rw [h]; exact List.mem_cons_self
      · exact List.mem_cons_of_mem _ (le_args w vs (j + 1) x hn hx q h)
    | float b =>
      rcases List.mem_cons.mp (show q ∈ (j, up w (.float b)) :: lsA w (j + 1) (le vs ++ x) from hq) with h | h
      · rw [h]; exact List.mem_cons_self
      · exact List.mem_cons_of_mem _ (le_args w vs (j + 1) x hn hx q h)
    | ref b =>
      rcases List.mem_cons.mp (show q ∈ (j, up w (.ref b)) :: lsA w (j + 1) (le vs ++ x) from hq) with h | h
      · rw [h]; exact List.mem_cons_self
      · exact List.mem_cons_of_mem _ (le_args w vs (j + 1) x hn hx q h)
    | null =>
      rcases List.mem_cons.mp (show q ∈ (j, up w .null) :: lsA w (j + 1) (le vs ++ x) from hq) with h | h
      · rw [h]; exact List.mem_cons_self
      · exact List.mem_cons_of_mem _ (le_args w vs (j + 1) x hn hx q h)
    | retAddr b =>
      rcases List.mem_cons.mp (show q ∈ (j, up w (.retAddr b)) :: lsA w (j + 1) (le vs ++ x) from hq) with h | h
      · rw [h]; exact List.mem_cons_self
      · exact List.mem_cons_of_mem _ (le_args w vs (j + 1) x hn hx q h)
theorem wd_sl (w : Wc) : ∀ as : List Value, (lg_sl (as.map (up w))).length = wd as
  | [] => rfl
  | v :: vs => by
    have ih := wd_sl w vs
    unfold lg_sl at ih ⊢
    rw [List.map_cons, List.flatMap_cons, List.length_append, ih, up_cat]
    show _ + wd vs = v.category + wd vs
    rcases lv_cat v with h | h
    · rw [if_neg (by omega), h]; rfl
    · rw [if_pos h, h]; rfl
theorem good_of {as : List Value} {ls : Lc} {M : Mm} {L : Ml} (hy : plainName (mN n).cls = true) (hO : cn (mO n) = (mN n).cls) (hn : noDb as = true) (hw : wd as ≤ mL n) {x : Lc} (hls : ls = le as ++ x) (hx : ∀ y ∈ x, y = none) (k : Runs n d Q 0 ls [] M L) : Good d n as M L Q := by
  intro l w hwk
  refine Met.ofW (cc := mC n) (maxL := mL n) (ret := mR n) hy rfl ?_
  intro p e s m args below meth c s₁ B hml hv
  obtain ⟨rfl, hp, hK, hN, hb⟩ := hv
  have hts := atoms_spec (ws := mW n) B.pre
  have hown : s.vm.findClass (mN n).cls = some m.cls := findClass_of_methodNamed B.named
  have hlocks := B.notSynchronized
  have hr := B.returns
  have hlv := lv_entry (as.map (up w)) (n := mL n) (by rw [wd_sl]; exact hw)
  rw [lg_entry_eq]
  refine k w p l e (headSpec (mW n) (rmD d)).room s m _ below meth c s.heap [] 0 0 _ _ ⟨B.exec, B.bytes, hml, by rw [hO]; exact hown, fun q hq => hts q (List.mem_cons_of_mem _ hq), hK, hN, hwk, ⟨?_, hb⟩, Nat.le_refl _, Nat.le_refl _⟩ ⟨Nat.zero_le _, Nat.zero_le _⟩ hp va_S.rf (lv_mono hlv (by rw [hls]; exact le_args w as 0 x hn hx)) ?_
  · obtain ⟨-, Ls, xs, ⟨scr, h1, -⟩, -⟩ := hp
    exact (Array.getElem?_eq_some_iff.mp h1).1
  · intro r M' L' H' locs' pc arr hq hp' hs' hra
    have fin : ∀ t : State, t.heap = H' → s.WarmedH t.vm → gQc w Q (as.map (up w)).toArray s (.returned (r.map (up w))) t := by
      intro t ht hW
      obtain ⟨p1, Ls, xs, p2, p3⟩ := hp'
      exact ⟨⟨r, M', L', rfl, hq, by rw [ht]; exact p1, Ls, xs, by rw [ht]; exact p2.moved hW.alike, p3⟩, hs'.F ht⟩
    cases r with
    | none =>
      obtain ⟨q1, q2⟩ := hra
      exact W.vret B.exec B.bytes (hr.trans q2) fin hs'.2.2 q1
    | some v =>
      cases v with
      | int v =>
        obtain ⟨q1, q2 | ⟨q2, q3⟩⟩ := hra
        · exact W.iret B.exec B.bytes (hr.trans q2) fin hs'.2.2 q1
        · exact W.zret (ty := .boolean) B.exec B.bytes (hr.trans q2) (by rcases q3 with rfl | rfl <;> decide) fin hs'.2.2 q1
      | long v =>
        obtain ⟨q1, q2⟩ := hra
        exact W.lret B.exec B.bytes (hr.trans q2) fin hs'.2.2 q1
      | ref v =>
        obtain ⟨q1, q2⟩ := hra
        exact W.aret B.exec B.bytes (hr.trans q2) (Or.inl ⟨_, rfl⟩) (Or.inr ⟨_, rfl⟩) fin hs'.2.2 q1
      | float v => exact hra.elim
      | double v => exact hra.elim
      | null => exact hra.elim
      | retAddr v => exact hra.elim

end
