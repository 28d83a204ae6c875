/-! how the reference holds a circle: 54 ints from o on of an array -/
def po (f : Nat) : Nat := if f = 3 then 4 else if f = 4 then 3 else if f = 7 then 14 else if f = 8 then 22 else if f = 9 then 46 else if f = 10 then 30 else if f = 11 then 38 else f
def rR (M : Mm) (a o : Nat) (C : Ci) : Prop := (∀ k, k < 6 → M a (o + po k) = nI (C k 0)) ∧ ∀ f, 6 ≤ f → f ≤ 11 → ∀ j, j < C 0 0 → M a (o + po f + j) = if f = 7 then lkR (C f j) else nI (C f j)
def fr1 (a : Nat) (M M' : Mm) : Prop := ∀ x, x ≠ a → M' x = M x
theorem fr1.rf {a : Nat} {M : Mm} : fr1 a M M := fun _ _ => rfl
theorem fr1.tr {a : Nat} {M M1 M2 : Mm} (h1 : fr1 a M M1) (h2 : fr1 a M1 M2) : fr1 a M M2 := fun x hx => (h2 x hx).trans (h1 x hx)
theorem fr1.um {a : Nat} {M M1 : Mm} (h : fr1 a M M1) {k : Nat} {v : Int32} : fr1 a M (um M1 a k v) := fun x hx => (um_ne M1 a k v hx).trans (h x hx)
theorem um_at (M : Mm) (a k : Nat) (v : Int32) (j : Nat) : um M a k v a j = if j = k then v else M a j := by rw [um_self]; rfl
theorem po_sc : ∀ k, k < 6 → po k < 6 := by decide
theorem po_ar : ∀ f, f ≤ 11 → 6 ≤ f → 6 ≤ po f ∧ po f ≤ 46 := by decide
theorem po_inj : ∀ k, k < 6 → ∀ l, l < 6 → po k = po l → k = l := by decide
theorem po_ap' : ∀ f, f < 12 → ∀ g, g < 12 → 6 ≤ f → 6 ≤ g → f = g ∨ po f + 8 ≤ po g ∨ po g + 8 ≤ po f := by decide
theorem po_ap (f : Nat) (h1 : f ≤ 11) (h2 : 6 ≤ f) (g : Nat) (h3 : g ≤ 11) (h4 : 6 ≤ g) (h : f ≠ g) : po f + 8 ≤ po g ∨ po g + 8 ≤ po f := (po_ap' f (by omega) g (by omega) h2 h4).resolve_left h
section
variable {M : Mm} {a o : Nat} {C : Ci}
theorem rR.k (h : rR M a o C) {j : Nat} (hj : j < C 0 0) : M a (o + 6 + j) = nI (C 6 j) := (h.2 6 (by decide) (by decide) j hj).trans (if_neg (by decide))
theorem rR.l (h : rR M a o C) {j : Nat} (hj : j < C 0 0) : M a (o + 14 + j) = lkR (C 7 j) := (h.2 7 (by decide) (by decide) j hj).trans (if_pos rfl)
theorem rR.s (h : rR M a o C) {j : Nat} (hj : j < C 0 0) : M a (o + 22 + j) = nI (C 8 j) := (h.2 8 (by decide) (by decide) j hj).trans (if_neg (by decide))
theorem rR.h (h : rR M a o C) {j : Nat} (hj : j < C 0 0) : M a (o + 46 + j) = nI (C 9 j) := (h.2 9 (by decide) (by decide) j hj).trans (if_neg (by decide))
theorem rR.f (h : rR M a o C) {j : Nat} (hj : j < C 0 0) : M a (o + 30 + j) = nI (C 10 j) := (h.2 10 (by decide) (by decide) j hj).trans (if_neg (by decide))
theorem rR.w (h : rR M a o C) {j : Nat} (hj : j < C 0 0) : M a (o + 38 + j) = nI (C 11 j) := (h.2 11 (by decide) (by decide) j hj).trans (if_neg (by decide))
theorem rR.sc (h : rR M a o C) (k v : Nat) (hk1 : 1 ≤ k) (hk : k < 6) : rR (um M a (o + po k) (nI v)) a o (cu C k 0 v) := by
  have e0 : cu C k 0 v 0 0 = C 0 0 := cu_ne (by omega)
  refine ⟨fun x hx => ?_, fun f h1 h2 j hj => ?_⟩
  · rw [um_at]
    by_cases q : x = k
    · subst q; rw [cu_s, if_pos rfl]
    · rw [cu_ne q, if_neg (fun z => q (po_inj x hx k hk (by omega)))]; exact h.1 x hx
  · rw [e0] at hj
    have := po_sc k hk
    have := po_ar f h2 h1
    rw [cu_ne (by omega), um_at, if_neg (by omega)]
    exact h.2 f h1 h2 j hj
theorem rR.ar (h : rR M a o C) (hP : C 0 0 ≤ 8) (f j v : Nat) (h1 : 6 ≤ f) (h2 : f ≤ 11) (hj8 : j < 8) : rR (um M a (o + po f + j) (if f = 7 then lkR v else nI v)) a o (cu C f j v) := by
  have e0 : cu C f j v 0 0 = C 0 0 := cu_ne (by omega)
  have g0 := po_ar f h2 h1
  refine ⟨fun x hx => ?_, fun g g1 g2 i hi => ?_⟩
  · have := po_sc x hx
    rw [um_at, if_neg (by omega), cu_ne (by omega)]
    exact h.1 x hx
  · rw [e0] at hi
    rw [um_at]
    by_cases q : g = f
    · subst q
      rw [cu_at]
      by_cases z : i = j
      · rw [if_pos z, if_pos (by omega)]
      · rw [if_neg z, if_neg (by omega)]
        exact h.2 g g1 g2 i hi
    · have := po_ap g g2 g1 f h2 h1 q
      rw [cu_ne q, if_neg (by omega)]
      exact h.2 g g1 g2 i hi
theorem rR.a7 (h : rR M a o C) (hP : C 0 0 ≤ 8) (j v : Nat) (hj : j < 8) : rR (um M a (o + 14 + j) (lkR v)) a o (cu C 7 j v) := by
  have := h.ar hP 7 j v (by decide) (by decide) hj
  rw [if_pos rfl] at this
  exact this
theorem rR.a9 (h : rR M a o C) (hP : C 0 0 ≤ 8) (j v : Nat) (hj : j < 8) : rR (um M a (o + 46 + j) (nI v)) a o (cu C 9 j v) := by
  have := h.ar hP 9 j v (by decide) (by decide) hj
  rw [if_neg (by decide)] at this
  exact this
theorem rR.a10 (h : rR M a o C) (hP : C 0 0 ≤ 8) (j v : Nat) (hj : j < 8) : rR (um M a (o + 30 + j) (nI v)) a o (cu C 10 j v) := by
  have := h.ar hP 10 j v (by decide) (by decide) hj
  rw [if_neg (by decide)] at this
  exact this
theorem rR.a11 (h : rR M a o C) (hP : C 0 0 ≤ 8) (j v : Nat) (hj : j < 8) : rR (um M a (o + 38 + j) (nI v)) a o (cu C 11 j v) := by
  have := h.ar hP 11 j v (by decide) (by decide) hj
  rw [if_neg (by decide)] at this
  exact this
theorem rR.cg {C' : Ci} (h : rR M a o C) (h0 : ∀ k, k < 6 → C' k 0 = C k 0) (hf : ∀ f, 6 ≤ f → f ≤ 11 → ∀ j, j < C 0 0 → C' f j = C f j) : rR M a o C' := by
  refine ⟨fun k hk => by rw [h0 k hk]; exact h.1 k hk, fun f h1 h2 j hj => ?_⟩
  rw [h0 0 (by decide)] at hj
  rw [hf f h1 h2 j hj]
  exact h.2 f h1 h2 j hj
theorem rR.row {M' : Mm} (h : rR M a o C) (hf : M' a = M a) : rR M' a o C := ⟨fun k hk => by rw [hf]; exact h.1 k hk, fun f h1 h2 j hj => by rw [hf]; exact h.2 f h1 h2 j hj⟩
end
theorem lkR_lt {v : Nat} (h : v < 100) : (lkR v < 0) ↔ v = 99 := by
  unfold lkR
  by_cases q : v = 99
  · rw [if_pos q]; exact ⟨fun _ => q, fun _ => by rw [Int32.lt_iff_toInt_lt, c_m1_i]; decide⟩
  · rw [if_neg q]; exact ⟨fun z => absurd z (nI_pos (by omega)), fun z => absurd z q⟩
theorem lkR_e {v : Nat} (h : v ≠ 99) : lkR v = nI v := if_neg h
theorem lkR_ge {v : Nat} (h : v < 100) : (0 ≤ lkR v) ↔ ¬ v = 99 := by rw [← Int32.not_lt, lkR_lt h]
theorem lkR_99 : lkR 99 = c_m1 := if_pos rfl
theorem lkR_eq {v s : Nat} (hv : v < 100) (hs : s < 99) : (lkR v = nI s) ↔ v = s := by
  unfold lkR
  by_cases q : v = 99
  · rw [if_pos q]
    refine ⟨fun z => ?_, fun z => absurd z (by omega)⟩
    have := congrArg Int32.toInt z
    rw [nI_toInt (by omega)] at this
    have e := c_m1_i
    omega
  · rw [if_neg q]
    exact nI_eq (by omega) (by omega)
/-- the two arrays of a circle: now, tried -/
def isT (a : Nat) : Prop := a = 237 ∨ a = 238
theorem isT_f {a : Nat} (h : isT a) : kd a = 9 ∧ ln a = 54 := by
  rcases h with rfl | rfl <;> decide +kernel
section
variable {d a : Nat} {M : Mm} {L : Ml} {Q : Qt} {C : Ci}
theorem z_seatUp (ha : isT a) (h : rR M a 0 C) (hP : 3 ≤ C 0 0 ∧ C 0 0 ≤ 8) {s : Nat} (hs : s < C 0 0) (hq : Q (some (.int (nI (abv (C 0 0) s)))) M L) : Good d nX7_seatBy [.ref a, .int (nI s), .int (nI 1)] M L Q := by
  obtain ⟨k0, l0⟩ := isT_f ha
  refine eX7_seatBy _ _ _ ?_
  simp (disch := omega) only [w_N, w_iconst, w_lcst, w_iload, w_lload, w_aload, m_i_s, m_l_s, m_a_s, w_istore, w_lstore, w_astore, w_iinc, w_iadd, w_isub, w_imul, w_iand, w_ior, w_ixor, w_ishl, w_ishr, w_iushr, w_idiv, w_irem, w_ineg, w_ladd, w_lsub, w_lmul, w_ldiv, w_lrem, w_lcmp, w_i2l, w_l2i, w_i2b, w_i2s, w_dupi, w_dupr, w_popi, w_popr, w_dup2, w_goto, w_cut, w_switch, sw_nil, sw_cons, w_iald, w_bald, w_zald, w_aald, w_iast, w_bast, w_zast, w_ireturn, w_zr0, w_zr1, w_lreturn, w_areturn, w_vreturn, w_cpy, w_mmax, w_mmin, w_sald, w_slen, sc_nil, sc_i, sc_r, sc_l, tl_s, tl_n, ls1, ls2, lk1, hd0, Int.reduceToNat, Nat.reduceAdd, Nat.reduceLeDiff, Nat.reduceMul, true_and, and_true, w_icmp_eq, w_icmp_ne, w_icmp_lt, w_icmp_ge, w_icmp_gt, w_icmp_le, w_if_eq, w_if_ne, w_if_lt, w_if_ge, w_if_gt, w_if_le, tX7_seatBy_0, kX7_seatBy_0, ci_0, lg_0, lg_1, lg_2, lg_3, k0, l0, nI_add]
  try simp only [cm_1, cm_1000000, cm_1000001, cm_1000002, cm_1000003, cm_1000010, cm_1000100, lm_1000001, lm_1000002]
  refine exj (by omega) ?_
  have e0 : M a 0 = nI (C 0 0) := h.1 0 (by decide)
  rw [e0, nI_add, pk_rem (by omega) (by omega) (by omega)]
  refine ⟨nI_ne0 (by omega) (by omega), ?_⟩
  have : (s + 1 + C 0 0) % C 0 0 = abv (C 0 0) s := by
    rw [Nat.add_mod_right]
    unfold abv
    split
    · exact Nat.mod_eq_of_lt (by omega)
    · rw [show s + 1 = C 0 0 by omega, Nat.mod_self]
  rw [this]
  exact hq
theorem z_seatDn (ha : isT a) (h : rR M a 0 C) (hP : 3 ≤ C 0 0 ∧ C 0 0 ≤ 8) {s : Nat} (hs : s < C 0 0) (hq : Q (some (.int (nI (blw (C 0 0) s)))) M L) : Good d nX7_seatBy [.ref a, .int (nI s), .int c_m1] M L Q := by
  obtain ⟨k0, l0⟩ := isT_f ha
  refine eX7_seatBy _ _ _ ?_
  simp (disch := omega) only [w_N, w_iconst, w_lcst, w_iload, w_lload, w_aload, m_i_s, m_l_s, m_a_s, w_istore, w_lstore, w_astore, w_iinc, w_iadd, w_isub, w_imul, w_iand, w_ior, w_ixor, w_ishl, w_ishr, w_iushr, w_idiv, w_irem, w_ineg, w_ladd, w_lsub, w_lmul, w_ldiv, w_lrem, w_lcmp, w_i2l, w_l2i, w_i2b, w_i2s, w_dupi, w_dupr, w_popi, w_popr, w_dup2, w_goto, w_cut, w_switch, sw_nil, sw_cons, w_iald, w_bald, w_zald, w_aald, w_iast, w_bast, w_zast, w_ireturn, w_zr0, w_zr1, w_lreturn, w_areturn, w_vreturn, w_cpy, w_mmax, w_mmin, w_sald, w_slen, sc_nil, sc_i, sc_r, sc_l, tl_s, tl_n, ls1, ls2, lk1, hd0, Int.reduceToNat, Nat.reduceAdd, Nat.reduceLeDiff, Nat.reduceMul, true_and, and_true, w_icmp_eq, w_icmp_ne, w_icmp_lt, w_icmp_ge, w_icmp_gt, w_icmp_le, w_if_eq, w_if_ne, w_if_lt, w_if_ge, w_if_gt, w_if_le, tX7_seatBy_0, kX7_seatBy_0, ci_0, lg_0, lg_1, lg_2, lg_3, k0, l0]
  try simp only [cm_1, cm_1000000, cm_1000001, cm_1000002, cm_1000003, cm_1000010, cm_1000100, lm_1000001, lm_1000002]
  refine exj (by omega) ?_
  have e0 : M a 0 = nI (C 0 0) := h.1 0 (by decide)
  obtain ⟨P', hP'⟩ : ∃ P', C 0 0 = P' + 1 := ⟨C 0 0 - 1, by omega⟩
  have e1 : nI s + c_m1 + nI (C 0 0) = nI (s + (C 0 0 - 1)) := by
    rw [c_m1_e, Int32.add_assoc, Int32.add_comm (-1), hP', pk_m1, nI_add, Nat.add_sub_cancel]
  rw [e0, e1, pk_rem (by omega) (by omega) (by omega)]
  refine ⟨nI_ne0 (by omega) (by omega), ?_⟩
  have : (s + (C 0 0 - 1)) % C 0 0 = blw (C 0 0) s := by
    unfold blw
    split
    · rw [show s + (C 0 0 - 1) = s - 1 + C 0 0 by omega, Nat.add_mod_right]
      exact Nat.mod_eq_of_lt (by omega)
    · rw [show s = 0 by omega, Nat.zero_add]
      exact Nat.mod_eq_of_lt (by omega)
  rw [this]
  exact hq
theorem z_nextLiving (ha : isT a) (h : rR M a 0 C) (hw : wf C) {p : Nat} (hp : p < C 0 0) (hq : Q (some (.int (lkR (nnd C p)))) M L) : Good d nX7_nextLiving [.ref a, .int (nI p)] M L Q := by
  obtain ⟨k0, l0⟩ := isT_f ha
  obtain ⟨⟨hP, hP8⟩, -, -, -, -, hj⟩ := hw
  have e0 : M a 0 = nI (C 0 0) := h.1 0 (by decide)
  refine eX7_nextLiving _ _ ?_
  simp (disch := omega) only [w_N, w_iconst, w_lcst, w_iload, w_lload, w_aload, m_i_s, m_l_s, m_a_s, w_istore, w_lstore, w_astore, w_iinc, w_iadd, w_isub, w_imul, w_iand, w_ior, w_ixor, w_ishl, w_ishr, w_iushr, w_idiv, w_irem, w_ineg, w_ladd, w_lsub, w_lmul, w_ldiv, w_lrem, w_lcmp, w_i2l, w_l2i, w_i2b, w_i2s, w_dupi, w_dupr, w_popi, w_popr, w_dup2, w_goto, w_cut, w_switch, sw_nil, sw_cons, w_iald, w_bald, w_zald, w_aald, w_iast, w_bast, w_zast, w_ireturn, w_zr0, w_zr1, w_lreturn, w_areturn, w_vreturn, w_cpy, w_mmax, w_mmin, w_sald, w_slen, sc_nil, sc_i, sc_r, sc_l, tl_s, tl_n, ls1, ls2, lk1, hd0, Int.reduceToNat, Nat.reduceAdd, Nat.reduceLeDiff, Nat.reduceMul, true_and, and_true, w_icmp_eq, w_icmp_ne, w_icmp_lt, w_icmp_ge, w_icmp_gt, w_icmp_le, w_if_eq, w_if_ne, w_if_lt, w_if_ge, w_if_gt, w_if_le, tX7_nextLiving_0, kX7_nextLiving_0, tX7_nextLiving_2, kX7_nextLiving_2, tX7_nextLiving_29, kX7_nextLiving_29, tX7_nextLiving_35, kX7_nextLiving_35, hX7_nextLiving_2, ci_1, ci_0, ci_46, ci_2, lg_0, lg_1, lg_2, lg_3]
  try simp only [cm_1, cm_1000000, cm_1000001, cm_1000002, cm_1000003, cm_1000010, cm_1000100, lm_1000001, lm_1000002]
  have loop : ∀ m k (x : Option Value), k + m = C 0 0 → 1 ≤ k → (Q (some (.int (lkR (nnF C p m k)))) M L) → Runs nX7_nextLiving d Q 2 [some (.ref a), some (.int (nI p)), some (.int (nI k)), x] [] M L := by
    intro m
    induction m with
    | zero =>
      intro k x hk h1 hq
      refine wpH_runs oX7_nextLiving 60 2 oX7_nextLiving_2 ?_
      simp (disch := omega) only [w_N, w_iconst, w_lcst, w_iload, w_lload, w_aload, m_i_s, m_l_s, m_a_s, w_istore, w_lstore, w_astore, w_iinc, w_iadd, w_isub, w_imul, w_iand, w_ior, w_ixor, w_ishl, w_ishr, w_iushr, w_idiv, w_irem, w_ineg, w_ladd, w_lsub, w_lmul, w_ldiv, w_lrem, w_lcmp, w_i2l, w_l2i, w_i2b, w_i2s, w_dupi, w_dupr, w_popi, w_popr, w_dup2, w_goto, w_cut, w_switch, sw_nil, sw_cons, w_iald, w_bald, w_zald, w_aald, w_iast, w_bast, w_zast, w_ireturn, w_zr0, w_zr1, w_lreturn, w_areturn, w_vreturn, w_cpy, w_mmax, w_mmin, w_sald, w_slen, sc_nil, sc_i, sc_r, sc_l, tl_s, tl_n, ls1, ls2, lk1, hd0, Int.reduceToNat, Nat.reduceAdd, Nat.reduceLeDiff, Nat.reduceMul, true_and, and_true, w_icmp_eq, w_icmp_ne, w_icmp_lt, w_icmp_ge, w_icmp_gt, w_icmp_le, w_if_eq, w_if_ne, w_if_lt, w_if_ge, w_if_gt, w_if_le, tX7_nextLiving_0, kX7_nextLiving_0, tX7_nextLiving_2, kX7_nextLiving_2, tX7_nextLiving_29, kX7_nextLiving_29, tX7_nextLiving_35, kX7_nextLiving_35, hX7_nextLiving_2, ci_1, ci_0, ci_46, ci_2, lg_0, lg_1, lg_2, lg_3, k0, l0, nI_leI, nI_add]
      try simp only [cm_1, cm_1000000, cm_1000001, cm_1000002, cm_1000003, cm_1000010, cm_1000100, lm_1000001, lm_1000002]
      refine exj (by omega) ?_
      rw [e0]
      simp (disch := omega) only [nI_leI]
      exact ⟨fun _ => hq, fun z => absurd (by omega) z⟩
    | succ m ih =>
      intro k x hk h1 hq
      refine wpH_runs oX7_nextLiving 60 2 oX7_nextLiving_2 ?_
      have hs' : (p + k) % C 0 0 < C 0 0 := Nat.mod_lt _ (by omega)
      have h9 := (hj _ hs').2.2.2.1
      have hn0 : ¬ nI (C 0 0) = 0 := nI_ne0 (by omega) (by omega)
      simp (disch := omega) only [w_N, w_iconst, w_lcst, w_iload, w_lload, w_aload, m_i_s, m_l_s, m_a_s, w_istore, w_lstore, w_astore, w_iinc, w_iadd, w_isub, w_imul, w_iand, w_ior, w_ixor, w_ishl, w_ishr, w_iushr, w_idiv, w_irem, w_ineg, w_ladd, w_lsub, w_lmul, w_ldiv, w_lrem, w_lcmp, w_i2l, w_l2i, w_i2b, w_i2s, w_dupi, w_dupr, w_popi, w_popr, w_dup2, w_goto, w_cut, w_switch, sw_nil, sw_cons, w_iald, w_bald, w_zald, w_aald, w_iast, w_bast, w_zast, w_ireturn, w_zr0, w_zr1, w_lreturn, w_areturn, w_vreturn, w_cpy, w_mmax, w_mmin, w_sald, w_slen, sc_nil, sc_i, sc_r, sc_l, tl_s, tl_n, ls1, ls2, lk1, hd0, Int.reduceToNat, Nat.reduceAdd, Nat.reduceLeDiff, Nat.reduceMul, true_and, and_true, w_icmp_eq, w_icmp_ne, w_icmp_lt, w_icmp_ge, w_icmp_gt, w_icmp_le, w_if_eq, w_if_ne, w_if_lt, w_if_ge, w_if_gt, w_if_le, tX7_nextLiving_0, kX7_nextLiving_0, tX7_nextLiving_2, kX7_nextLiving_2, tX7_nextLiving_29, kX7_nextLiving_29, tX7_nextLiving_35, kX7_nextLiving_35, hX7_nextLiving_2, ci_1, ci_0, ci_46, ci_2, lg_0, lg_1, lg_2, lg_3, k0, l0, nI_leI, nI_add]
      try simp only [cm_1, cm_1000000, cm_1000001, cm_1000002, cm_1000003, cm_1000010, cm_1000100, lm_1000001, lm_1000002]
      refine exj (by omega) ?_
      rw [e0]
      simp (disch := omega) only [nI_leI]
      refine ⟨fun z => absurd z (by omega), fun _ => exj (by omega) ?_⟩
      rw [e0, pk_rem (by omega) (by omega) (by omega), nI_add]
      refine ⟨hn0, exj (by omega) ?_⟩
      have e9 := h.h hs'
      rw [Nat.zero_add] at e9
      rw [e9]
      simp (disch := omega) only [nI_eq]
      unfold nnF at hq
      refine ⟨fun z => ?_, fun z => ?_⟩
      · rw [if_pos z] at hq
        exact ih (k + 1) _ (by omega) (by omega) hq
      · rw [if_neg z, lkR_e (by omega)] at hq
        exact hq
  exact loop (C 0 0 - 1) 1 _ (by omega) (Nat.le_refl _) hq
theorem z_roves1 (ha : isT a) (h : rR M a 0 C) (hw : wf C) {p : Nat} (hp : p < C 0 0) (hq : Q (some (.int (nI (rvu (C 0 0) p (C 7 p))))) M L) : Good (d + 1) nX7_roves [.ref a, .int (nI p), .int (nI 1)] M L Q := by
  obtain ⟨k0, l0⟩ := isT_f ha
  obtain ⟨⟨hP, hP8⟩, -, -, -, -, hj⟩ := hw
  have h7 := (hj p hp).2.1
  have el := h.l hp
  rw [Nat.zero_add] at el
  refine eX7_roves _ _ _ ?_
  unfold rvu at hq
  simp (disch := omega) only [w_N, w_iconst, w_lcst, w_iload, w_lload, w_aload, m_i_s, m_l_s, m_a_s, w_istore, w_lstore, w_astore, w_iinc, w_iadd, w_isub, w_imul, w_iand, w_ior, w_ixor, w_ishl, w_ishr, w_iushr, w_idiv, w_irem, w_ineg, w_ladd, w_lsub, w_lmul, w_ldiv, w_lrem, w_lcmp, w_i2l, w_l2i, w_i2b, w_i2s, w_dupi, w_dupr, w_popi, w_popr, w_dup2, w_goto, w_cut, w_switch, sw_nil, sw_cons, w_iald, w_bald, w_zald, w_aald, w_iast, w_bast, w_zast, w_ireturn, w_zr0, w_zr1, w_lreturn, w_areturn, w_vreturn, w_cpy, w_mmax, w_mmin, w_sald, w_slen, sc_nil, sc_i, sc_r, sc_l, tl_s, tl_n, ls1, ls2, lk1, hd0, Int.reduceToNat, Nat.reduceAdd, Nat.reduceLeDiff, Nat.reduceMul, true_and, and_true, w_icmp_eq, w_icmp_ne, w_icmp_lt, w_icmp_ge, w_icmp_gt, w_icmp_le, w_if_eq, w_if_ne, w_if_lt, w_if_ge, w_if_gt, w_if_le, tX7_roves_0, kX7_roves_0, tX7_roves_13, kX7_roves_13, tX7_roves_19, kX7_roves_19, tX7_roves_44, kX7_roves_44, tX7_roves_46, kX7_roves_46, ci_14, wc_X7_seatBy, lg_0, lg_1, lg_2, lg_3, lg_4, k0, l0, nI_add]
  try simp only [cm_1, cm_1000000, cm_1000001, cm_1000002, cm_1000003, cm_1000010, cm_1000100, lm_1000001, lm_1000002]
  refine exj (by omega) ?_
  rw [el, lkR_ge (by omega)]
  refine ⟨fun z => exj (by omega) ?_, fun z => ?_⟩
  · rw [if_neg z] at hq
    have hs : C 7 p < C 0 0 := by omega
    have ha' := abv_lt (P := C 0 0) (s := C 7 p) hP
    rw [el, lkR_e (by omega)]
    refine callOk (Nat.lt_succ_self d) (z_seatUp ha h ⟨hP, hP8⟩ hs ?_)
    simp (disch := omega) only [w_N, w_iconst, w_lcst, w_iload, w_lload, w_aload, m_i_s, m_l_s, m_a_s, w_istore, w_lstore, w_astore, w_iinc, w_iadd, w_isub, w_imul, w_iand, w_ior, w_ixor, w_ishl, w_ishr, w_iushr, w_idiv, w_irem, w_ineg, w_ladd, w_lsub, w_lmul, w_ldiv, w_lrem, w_lcmp, w_i2l, w_l2i, w_i2b, w_i2s, w_dupi, w_dupr, w_popi, w_popr, w_dup2, w_goto, w_cut, w_switch, sw_nil, sw_cons, w_iald, w_bald, w_zald, w_aald, w_iast, w_bast, w_zast, w_ireturn, w_zr0, w_zr1, w_lreturn, w_areturn, w_vreturn, w_cpy, w_mmax, w_mmin, w_sald, w_slen, sc_nil, sc_i, sc_r, sc_l, tl_s, tl_n, ls1, ls2, lk1, hd0, Int.reduceToNat, Nat.reduceAdd, Nat.reduceLeDiff, Nat.reduceMul, true_and, and_true, w_icmp_eq, w_icmp_ne, w_icmp_lt, w_icmp_ge, w_icmp_gt, w_icmp_le, w_if_eq, w_if_ne, w_if_lt, w_if_ge, w_if_gt, w_if_le, tX7_roves_0, kX7_roves_0, tX7_roves_13, kX7_roves_13, tX7_roves_19, kX7_roves_19, tX7_roves_44, kX7_roves_44, tX7_roves_46, kX7_roves_46, ci_14, wc_X7_seatBy, lg_0, lg_1, lg_2, lg_3, lg_4, nI_eq]
    try simp only [cm_1, cm_1000000, cm_1000001, cm_1000002, cm_1000003, cm_1000010, cm_1000100, lm_1000001, lm_1000002]
    refine ⟨fun z => ?_, fun z => ?_⟩
    · rw [if_neg z] at hq; exact hq
    · rw [if_pos z] at hq
      rw [z]
      refine callOk (Nat.lt_succ_self d) (z_seatUp ha h ⟨hP, hP8⟩ hp ?_)
      simp (disch := omega) only [w_N, w_iconst, w_lcst, w_iload, w_lload, w_aload, m_i_s, m_l_s, m_a_s, w_istore, w_lstore, w_astore, w_iinc, w_iadd, w_isub, w_imul, w_iand, w_ior, w_ixor, w_ishl, w_ishr, w_iushr, w_idiv, w_irem, w_ineg, w_ladd, w_lsub, w_lmul, w_ldiv, w_lrem, w_lcmp, w_i2l, w_l2i, w_i2b, w_i2s, w_dupi, w_dupr, w_popi, w_popr, w_dup2, w_goto, w_cut, w_switch, sw_nil, sw_cons, w_iald, w_bald, w_zald, w_aald, w_iast, w_bast, w_zast, w_ireturn, w_zr0, w_zr1, w_lreturn, w_areturn, w_vreturn, w_cpy, w_mmax, w_mmin, w_sald, w_slen, sc_nil, sc_i, sc_r, sc_l, tl_s, tl_n, ls1, ls2, lk1, hd0, Int.reduceToNat, Nat.reduceAdd, Nat.reduceLeDiff, Nat.reduceMul, true_and, and_true, w_icmp_eq, w_icmp_ne, w_icmp_lt, w_icmp_ge, w_icmp_gt, w_icmp_le, w_if_eq, w_if_ne, w_if_lt, w_if_ge, w_if_gt, w_if_le, tX7_roves_0, kX7_roves_0, tX7_roves_13, kX7_roves_13, tX7_roves_19, kX7_roves_19, tX7_roves_44, kX7_roves_44, tX7_roves_46, kX7_roves_46, ci_14, wc_X7_seatBy, lg_0, lg_1, lg_2, lg_3, lg_4]
      try simp only [cm_1, cm_1000000, cm_1000001, cm_1000002, cm_1000003, cm_1000010, cm_1000100, lm_1000001, lm_1000002]
      exact hq
  · rw [if_pos (Classical.not_not.mp z)] at hq
    have ha' := abv_lt (P := C 0 0) (s := p) hP
    refine callOk (Nat.lt_succ_self d) (z_seatUp ha h ⟨hP, hP8⟩ hp ?_)
    simp (disch := omega) only [w_N, w_iconst, w_lcst, w_iload, w_lload, w_aload, m_i_s, m_l_s, m_a_s, w_istore, w_lstore, w_astore, w_iinc, w_iadd, w_isub, w_imul, w_iand, w_ior, w_ixor, w_ishl, w_ishr, w_iushr, w_idiv, w_irem, w_ineg, w_ladd, w_lsub, w_lmul, w_ldiv, w_lrem, w_lcmp, w_i2l, w_l2i, w_i2b, w_i2s, w_dupi, w_dupr, w_popi, w_popr, w_dup2, w_goto, w_cut, w_switch, sw_nil, sw_cons, w_iald, w_bald, w_zald, w_aald, w_iast, w_bast, w_zast, w_ireturn, w_zr0, w_zr1, w_lreturn, w_areturn, w_vreturn, w_cpy, w_mmax, w_mmin, w_sald, w_slen, sc_nil, sc_i, sc_r, sc_l, tl_s, tl_n, ls1, ls2, lk1, hd0, Int.reduceToNat, Nat.reduceAdd, Nat.reduceLeDiff, Nat.reduceMul, true_and, and_true, w_icmp_eq, w_icmp_ne, w_icmp_lt, w_icmp_ge, w_icmp_gt, w_icmp_le, w_if_eq, w_if_ne, w_if_lt, w_if_ge, w_if_gt, w_if_le, tX7_roves_0, kX7_roves_0, tX7_roves_13, kX7_roves_13, tX7_roves_19, kX7_roves_19, tX7_roves_44, kX7_roves_44, tX7_roves_46, kX7_roves_46, ci_14, wc_X7_seatBy, lg_0, lg_1, lg_2, lg_3, lg_4, nI_eq]
    try simp only [cm_1, cm_1000000, cm_1000001, cm_1000002, cm_1000003, cm_1000010, cm_1000100, lm_1000001, lm_1000002]
    refine ⟨fun z => ?_, fun z => ?_⟩
    · rw [if_neg z] at hq; exact hq
    · rw [if_pos z] at hq
      rw [z]
      refine callOk (Nat.lt_succ_self d) (z_seatUp ha h ⟨hP, hP8⟩ hp ?_)
      simp (disch := omega) only [w_N, w_iconst, w_lcst, w_iload, w_lload, w_aload, m_i_s, m_l_s, m_a_s, w_istore, w_lstore, w_astore, w_iinc, w_iadd, w_isub, w_imul, w_iand, w_ior, w_ixor, w_ishl, w_ishr, w_iushr, w_idiv, w_irem, w_ineg, w_ladd, w_lsub, w_lmul, w_ldiv, w_lrem, w_lcmp, w_i2l, w_l2i, w_i2b, w_i2s, w_dupi, w_dupr, w_popi, w_popr, w_dup2, w_goto, w_cut, w_switch, sw_nil, sw_cons, w_iald, w_bald, w_zald, w_aald, w_iast, w_bast, w_zast, w_ireturn, w_zr0, w_zr1, w_lreturn, w_areturn, w_vreturn, w_cpy, w_mmax, w_mmin, w_sald, w_slen, sc_nil, sc_i, sc_r, sc_l, tl_s, tl_n, ls1, ls2, lk1, hd0, Int.reduceToNat, Nat.reduceAdd, Nat.reduceLeDiff, Nat.reduceMul, true_and, and_true, w_icmp_eq, w_icmp_ne, w_icmp_lt, w_icmp_ge, w_icmp_gt, w_icmp_le, w_if_eq, w_if_ne, w_if_lt, w_if_ge, w_if_gt, w_if_le, tX7_roves_0, kX7_roves_0, tX7_roves_13, kX7_roves_13, tX7_roves_19, kX7_roves_19, tX7_roves_44, kX7_roves_44, tX7_roves_46, kX7_roves_46, ci_14, wc_X7_seatBy, lg_0, lg_1, lg_2, lg_3, lg_4]
      try simp only [cm_1, cm_1000000, cm_1000001, cm_1000002, cm_1000003, cm_1000010, cm_1000100, lm_1000001, lm_1000002]
      exact hq
theorem z_roves2 (ha : isT a) (h : rR M a 0 C) (hw : wf C) {p : Nat} (hp : p < C 0 0) (hq : Q (some (.int (nI (rvd (C 0 0) p (C 7 p))))) M L) : Good (d + 1) nX7_roves [.ref a, .int (nI p), .int c_m1] M L Q := by
  obtain ⟨k0, l0⟩ := isT_f ha
  obtain ⟨⟨hP, hP8⟩, -, -, -, -, hj⟩ := hw
  have h7 := (hj p hp).2.1
  have el := h.l hp
  rw [Nat.zero_add] at el
  refine eX7_roves _ _ _ ?_
  unfold rvd at hq
  simp (disch := omega) only [w_N, w_iconst, w_lcst, w_iload, w_lload, w_aload, m_i_s, m_l_s, m_a_s, w_istore, w_lstore, w_astore, w_iinc, w_iadd, w_isub, w_imul, w_iand, w_ior, w_ixor, w_ishl, w_ishr, w_iushr, w_idiv, w_irem, w_ineg, w_ladd, w_lsub, w_lmul, w_ldiv, w_lrem, w_lcmp, w_i2l, w_l2i, w_i2b, w_i2s, w_dupi, w_dupr, w_popi, w_popr, w_dup2, w_goto, w_cut, w_switch, sw_nil, sw_cons, w_iald, w_bald, w_zald, w_aald, w_iast, w_bast, w_zast, w_ireturn, w_zr0, w_zr1, w_lreturn, w_areturn, w_vreturn, w_cpy, w_mmax, w_mmin, w_sald, w_slen, sc_nil, sc_i, sc_r, sc_l, tl_s, tl_n, ls1, ls2, lk1, hd0, Int.reduceToNat, Nat.reduceAdd, Nat.reduceLeDiff, Nat.reduceMul, true_and, and_true, w_icmp_eq, w_icmp_ne, w_icmp_lt, w_icmp_ge, w_icmp_gt, w_icmp_le, w_if_eq, w_if_ne, w_if_lt, w_if_ge, w_if_gt, w_if_le, tX7_roves_0, kX7_roves_0, tX7_roves_13, kX7_roves_13, tX7_roves_19, kX7_roves_19, tX7_roves_44, kX7_roves_44, tX7_roves_46, kX7_roves_46, ci_14, wc_X7_seatBy, lg_0, lg_1, lg_2, lg_3, lg_4, k0, l0, nI_add]
  try simp only [cm_1, cm_1000000, cm_1000001, cm_1000002, cm_1000003, cm_1000010, cm_1000100, lm_1000001, lm_1000002]
  refine exj (by omega) ?_
  rw [el, lkR_ge (by omega)]
  refine ⟨fun z => exj (by omega) ?_, fun z => ?_⟩
  · rw [if_neg z] at hq
    have hs : C 7 p < C 0 0 := by omega
    have ha' := blw_lt (P := C 0 0) (s := C 7 p) hP hs
    rw [el, lkR_e (by omega)]
    refine callOk (Nat.lt_succ_self d) (z_seatDn ha h ⟨hP, hP8⟩ hs ?_)
    simp (disch := omega) only [w_N, w_iconst, w_lcst, w_iload, w_lload, w_aload, m_i_s, m_l_s, m_a_s, w_istore, w_lstore, w_astore, w_iinc, w_iadd, w_isub, w_imul, w_iand, w_ior, w_ixor, w_ishl, w_ishr, w_iushr, w_idiv, w_irem, w_ineg, w_ladd, w_lsub, w_lmul, w_ldiv, w_lrem, w_lcmp, w_i2l, w_l2i, w_i2b, w_i2s, w_dupi, w_dupr, w_popi, w_popr, w_dup2, w_goto, w_cut, w_switch, sw_nil, sw_cons, w_iald, w_bald, w_zald, w_aald, w_iast, w_bast, w_zast, w_ireturn, w_zr0, w_zr1, w_lreturn, w_areturn, w_vreturn, w_cpy, w_mmax, w_mmin, w_sald, w_slen, sc_nil, sc_i, sc_r, sc_l, tl_s, tl_n, ls1, ls2, lk1, hd0, Int.reduceToNat, Nat.reduceAdd, Nat.reduceLeDiff, Nat.reduceMul, true_and, and_true, w_icmp_eq, w_icmp_ne, w_icmp_lt, w_icmp_ge, w_icmp_gt, w_icmp_le, w_if_eq, w_if_ne, w_if_lt, w_if_ge, w_if_gt, w_if_le, tX7_roves_0, kX7_roves_0, tX7_roves_13, kX7_roves_13, tX7_roves_19, kX7_roves_19, tX7_roves_44, kX7_roves_44, tX7_roves_46, kX7_roves_46, ci_14, wc_X7_seatBy, lg_0, lg_1, lg_2, lg_3, lg_4, nI_eq]
    try simp only [cm_1, cm_1000000, cm_1000001, cm_1000002, cm_1000003, cm_1000010, cm_1000100, lm_1000001, lm_1000002]
    refine ⟨fun z => ?_, fun z => ?_⟩
    · rw [if_neg z] at hq; exact hq
    · rw [if_pos z] at hq
      rw [z]
      refine callOk (Nat.lt_succ_self d) (z_seatDn ha h ⟨hP, hP8⟩ hp ?_)
      simp (disch := omega) only [w_N, w_iconst, w_lcst, w_iload, w_lload, w_aload, m_i_s, m_l_s, m_a_s, w_istore, w_lstore, w_astore, w_iinc, w_iadd, w_isub, w_imul, w_iand, w_ior, w_ixor, w_ishl, w_ishr, w_iushr, w_idiv, w_irem, w_ineg, w_ladd, w_lsub, w_lmul, w_ldiv, w_lrem, w_lcmp, w_i2l, w_l2i, w_i2b, w_i2s, w_dupi, w_dupr, w_popi, w_popr, w_dup2, w_goto, w_cut, w_switch, sw_nil, sw_cons, w_iald, w_bald, w_zald, w_aald, w_iast, w_bast, w_zast, w_ireturn, w_zr0, w_zr1, w_lreturn, w_areturn, w_vreturn, w_cpy, w_mmax, w_mmin, w_sald, w_slen, sc_nil, sc_i, sc_r, sc_l, tl_s, tl_n, ls1, ls2, lk1, hd0, Int.reduceToNat, Nat.reduceAdd, Nat.reduceLeDiff, Nat.reduceMul, true_and, and_true, w_icmp_eq, w_icmp_ne, w_icmp_lt, w_icmp_ge, w_icmp_gt, w_icmp_le, w_if_eq, w_if_ne, w_if_lt, w_if_ge, w_if_gt, w_if_le, tX7_roves_0, kX7_roves_0, tX7_roves_13, kX7_roves_13, tX7_roves_19, kX7_roves_19, tX7_roves_44, kX7_roves_44, tX7_roves_46, kX7_roves_46, ci_14, wc_X7_seatBy, lg_0, lg_1, lg_2, lg_3, lg_4]
      try simp only [cm_1, cm_1000000, cm_1000001, cm_1000002, cm_1000003, cm_1000010, cm_1000100, lm_1000001, lm_1000002]
      exact hq
  · rw [if_pos (Classical.not_not.mp z)] at hq
    have ha' := blw_lt (P := C 0 0) (s := p) hP hp
    refine callOk (Nat.lt_succ_self d) (z_seatDn ha h ⟨hP, hP8⟩ hp ?_)
    simp (disch := omega) only [w_N, w_iconst, w_lcst, w_iload, w_lload, w_aload, m_i_s, m_l_s, m_a_s, w_istore, w_lstore, w_astore, w_iinc, w_iadd, w_isub, w_imul, w_iand, w_ior, w_ixor, w_ishl, w_ishr, w_iushr, w_idiv, w_irem, w_ineg, w_ladd, w_lsub, w_lmul, w_ldiv, w_lrem, w_lcmp, w_i2l, w_l2i, w_i2b, w_i2s, w_dupi, w_dupr, w_popi, w_popr, w_dup2, w_goto, w_cut, w_switch, sw_nil, sw_cons, w_iald, w_bald, w_zald, w_aald, w_iast, w_bast, w_zast, w_ireturn, w_zr0, w_zr1, w_lreturn, w_areturn, w_vreturn, w_cpy, w_mmax, w_mmin, w_sald, w_slen, sc_nil, sc_i, sc_r, sc_l, tl_s, tl_n, ls1, ls2, lk1, hd0, Int.reduceToNat, Nat.reduceAdd, Nat.reduceLeDiff, Nat.reduceMul, true_and, and_true, w_icmp_eq, w_icmp_ne, w_icmp_lt, w_icmp_ge, w_icmp_gt, w_icmp_le, w_if_eq, w_if_ne, w_if_lt, w_if_ge, w_if_gt, w_if_le, tX7_roves_0, kX7_roves_0, tX7_roves_13, kX7_roves_13, tX7_roves_19, kX7_roves_19, tX7_roves_44, kX7_roves_44, tX7_roves_46, kX7_roves_46, ci_14, wc_X7_seatBy, lg_0, lg_1, lg_2, lg_3, lg_4, nI_eq]
    try simp only [cm_1, cm_1000000, cm_1000001, cm_1000002, cm_1000003, cm_1000010, cm_1000100, lm_1000001, lm_1000002]
    refine ⟨fun z => ?_, fun z => ?_⟩
    · rw [if_neg z] at hq; exact hq
    · rw [if_pos z] at hq
      rw [z]
      refine callOk (Nat.lt_succ_self d) (z_seatDn ha h ⟨hP, hP8⟩ hp ?_)
      simp (disch := omega) only [w_N, w_iconst, w_lcst, w_iload, w_lload, w_aload, m_i_s, m_l_s, m_a_s, w_istore, w_lstore, w_astore, w_iinc, w_iadd, w_isub, w_imul, w_iand, w_ior, w_ixor, w_ishl, w_ishr, w_iushr, w_idiv, w_irem, w_ineg, w_ladd, w_lsub, w_lmul, w_ldiv, w_lrem, w_lcmp, w_i2l, w_l2i, w_i2b, w_i2s, w_dupi, w_dupr, w_popi, w_popr, w_dup2, w_goto, w_cut, w_switch, sw_nil, sw_cons, w_iald, w_bald, w_zald, w_aald, w_iast, w_bast, w_zast, w_ireturn, w_zr0, w_zr1, w_lreturn, w_areturn, w_vreturn, w_cpy, w_mmax, w_mmin, w_sald, w_slen, sc_nil, sc_i, sc_r, sc_l, tl_s, tl_n, ls1, ls2, lk1, hd0, Int.reduceToNat, Nat.reduceAdd, Nat.reduceLeDiff, Nat.reduceMul, true_and, and_true, w_icmp_eq, w_icmp_ne, w_icmp_lt, w_icmp_ge, w_icmp_gt, w_icmp_le, w_if_eq, w_if_ne, w_if_lt, w_if_ge, w_if_gt, w_if_le, tX7_roves_0, kX7_roves_0, tX7_roves_13, kX7_roves_13, tX7_roves_19, kX7_roves_19, tX7_roves_44, kX7_roves_44, tX7_roves_46, kX7_roves_46, ci_14, wc_X7_seatBy, lg_0, lg_1, lg_2, lg_3, lg_4]
      try simp only [cm_1, cm_1000000, cm_1000001, cm_1000002, cm_1000003, cm_1000010, cm_1000100, lm_1000001, lm_1000002]
      exact hq
theorem z_has {a p : Nat} (h5 : a < 256) (hp : p < 9) (hq : Q (some (.int (if a / 2 ^ p % 2 = 1 then nI 1 else nI 0))) M L) : Good d nX7_has [.int (nI a), .int (nI p)] M L Q := by
  refine eX7_has _ _ ?_
  have hm : a / 2 ^ p % 2 < 2 := Nat.mod_lt _ (by decide)
  simp (disch := omega) only [w_N, w_iconst, w_lcst, w_iload, w_lload, w_aload, m_i_s, m_l_s, m_a_s, w_istore, w_lstore, w_astore, w_iinc, w_iadd, w_isub, w_imul, w_iand, w_ior, w_ixor, w_ishl, w_ishr, w_iushr, w_idiv, w_irem, w_ineg, w_ladd, w_lsub, w_lmul, w_ldiv, w_lrem, w_lcmp, w_i2l, w_l2i, w_i2b, w_i2s, w_dupi, w_dupr, w_popi, w_popr, w_dup2, w_goto, w_cut, w_switch, sw_nil, sw_cons, w_iald, w_bald, w_zald, w_aald, w_iast, w_bast, w_zast, w_ireturn, w_zr0, w_zr1, w_lreturn, w_areturn, w_vreturn, w_cpy, w_mmax, w_mmin, w_sald, w_slen, sc_nil, sc_i, sc_r, sc_l, tl_s, tl_n, ls1, ls2, lk1, hd0, Int.reduceToNat, Nat.reduceAdd, Nat.reduceLeDiff, Nat.reduceMul, true_and, and_true, w_icmp_eq, w_icmp_ne, w_icmp_lt, w_icmp_ge, w_icmp_gt, w_icmp_le, w_if_eq, w_if_ne, w_if_lt, w_if_ge, w_if_gt, w_if_le, tX7_has_0, kX7_has_0, tX7_has_13, kX7_has_13, tX7_has_14, kX7_has_14, ci_1, ci_0, lg_0, lg_1, shr1 _ h5 _ hp, nI_eq]
  try simp only [cm_1, cm_1000000, cm_1000001, cm_1000002, cm_1000003, cm_1000010, cm_1000100, lm_1000001, lm_1000002]
  refine ⟨fun z => ?_, fun z => ?_⟩
  · rw [if_neg z] at hq; exact hq
  · rw [if_pos z] at hq; exact hq
theorem z_lookOf (ha : isT a) (h : rR M a 0 C) (hw : wf C) (h3 : C 3 0 < 100000) {p : Nat} (hp : p < C 0 0) (hq : Q (some (.int (lkR (nl C p)))) M L) : Good (d + 2) nX7_lookOf [.ref a, .int (nI p)] M L Q := by
  obtain ⟨k0, l0⟩ := isT_f ha
  obtain ⟨⟨hP, hP8⟩, -, -, -, h5, hj⟩ := id hw
  have h9 := (hj p hp).2.2.2.1
  have h6 := (hj p hp).1
  have e9 := h.h hp
  have e7 := h.l hp
  have e6 := h.k hp
  have e5 : M a 5 = nI (C 5 0) := h.1 5 (by decide)
  have e3 : M a 4 = nI (C 3 0) := h.1 3 (by decide)
  rw [Nat.zero_add] at e9 e7 e6
  refine eX7_lookOf _ _ ?_
  unfold nl at hq
  simp (disch := omega) only [w_N, w_iconst, w_lcst, w_iload, w_lload, w_aload, m_i_s, m_l_s, m_a_s, w_istore, w_lstore, w_astore, w_iinc, w_iadd, w_isub, w_imul, w_iand, w_ior, w_ixor, w_ishl, w_ishr, w_iushr, w_idiv, w_irem, w_ineg, w_ladd, w_lsub, w_lmul, w_ldiv, w_lrem, w_lcmp, w_i2l, w_l2i, w_i2b, w_i2s, w_dupi, w_dupr, w_popi, w_popr, w_dup2, w_goto, w_cut, w_switch, sw_nil, sw_cons, w_iald, w_bald, w_zald, w_aald, w_iast, w_bast, w_zast, w_ireturn, w_zr0, w_zr1, w_lreturn, w_areturn, w_vreturn, w_cpy, w_mmax, w_mmin, w_sald, w_slen, sc_nil, sc_i, sc_r, sc_l, tl_s, tl_n, ls1, ls2, lk1, hd0, Int.reduceToNat, Nat.reduceAdd, Nat.reduceLeDiff, Nat.reduceMul, true_and, and_true, w_icmp_eq, w_icmp_ne, w_icmp_lt, w_icmp_ge, w_icmp_gt, w_icmp_le, w_if_eq, w_if_ne, w_if_lt, w_if_ge, w_if_gt, w_if_le, tX7_lookOf_0, kX7_lookOf_0, tX7_lookOf_20, kX7_lookOf_20, tX7_lookOf_22, kX7_lookOf_22, tX7_lookOf_60, kX7_lookOf_60, tX7_lookOf_67, kX7_lookOf_67, tX7_lookOf_74, kX7_lookOf_74, tX7_lookOf_81, kX7_lookOf_81, tX7_lookOf_87, kX7_lookOf_87, tX7_lookOf_103, kX7_lookOf_103, tX7_lookOf_104, kX7_lookOf_104, ci_46, ci_2, ci_5, wc_X7_has, ci_6, ci_1, ci_3, ci_4, wc_X7_roves, ci_14, wc_X7_nextLiving, lg_0, lg_1, k0, l0, nI_add]
  try simp only [cm_1, cm_1000000, cm_1000001, cm_1000002, cm_1000003, cm_1000010, cm_1000100, lm_1000001, lm_1000002]
  refine exj (by omega) ?_
  rw [e9]
  simp (disch := omega) only [nI_eq]
  have hm2 : C 3 0 % 2 < 2 := Nat.mod_lt _ (by decide)
  refine ⟨fun z => ?_, fun z => exj (by omega) ?_⟩
  · rw [if_pos z] at hq; exact hq
  · rw [if_neg z] at hq
    rw [e5]
    refine callOk (show d < d + 2 by omega) (z_has h5 (by omega) ?_)
    by_cases z2 : C 5 0 / 2 ^ p % 2 = 1
    · rw [if_pos z2] at hq ⊢
      simp (disch := omega) only [w_N, w_iconst, w_lcst, w_iload, w_lload, w_aload, m_i_s, m_l_s, m_a_s, w_istore, w_lstore, w_astore, w_iinc, w_iadd, w_isub, w_imul, w_iand, w_ior, w_ixor, w_ishl, w_ishr, w_iushr, w_idiv, w_irem, w_ineg, w_ladd, w_lsub, w_lmul, w_ldiv, w_lrem, w_lcmp, w_i2l, w_l2i, w_i2b, w_i2s, w_dupi, w_dupr, w_popi, w_popr, w_dup2, w_goto, w_cut, w_switch, sw_nil, sw_cons, w_iald, w_bald, w_zald, w_aald, w_iast, w_bast, w_zast, w_ireturn, w_zr0, w_zr1, w_lreturn, w_areturn, w_vreturn, w_cpy, w_mmax, w_mmin, w_sald, w_slen, sc_nil, sc_i, sc_r, sc_l, tl_s, tl_n, ls1, ls2, lk1, hd0, Int.reduceToNat, Nat.reduceAdd, Nat.reduceLeDiff, Nat.reduceMul, true_and, and_true, w_icmp_eq, w_icmp_ne, w_icmp_lt, w_icmp_ge, w_icmp_gt, w_icmp_le, w_if_eq, w_if_ne, w_if_lt, w_if_ge, w_if_gt, w_if_le, tX7_lookOf_0, kX7_lookOf_0, tX7_lookOf_20, kX7_lookOf_20, tX7_lookOf_22, kX7_lookOf_22, tX7_lookOf_60, kX7_lookOf_60, tX7_lookOf_67, kX7_lookOf_67, tX7_lookOf_74, kX7_lookOf_74, tX7_lookOf_81, kX7_lookOf_81, tX7_lookOf_87, kX7_lookOf_87, tX7_lookOf_103, kX7_lookOf_103, tX7_lookOf_104, kX7_lookOf_104, ci_46, ci_2, ci_5, wc_X7_has, ci_6, ci_1, ci_3, ci_4, wc_X7_roves, ci_14, wc_X7_nextLiving, lg_0, lg_1, ← zn0, nI_eq]
      try simp only [cm_1, cm_1000000, cm_1000001, cm_1000002, cm_1000003, cm_1000010, cm_1000100, lm_1000001, lm_1000002]
      exact ⟨fun q => absurd q (by decide), fun _ => hq⟩
    · rw [if_neg z2] at hq ⊢
      have hrem : nI (C 3 0) - nI (C 3 0) / nI 2 * nI 2 = nI (C 3 0 % 2) := pk_rem (by omega) (by decide) (by decide)
      simp (disch := omega) only [w_N, w_iconst, w_lcst, w_iload, w_lload, w_aload, m_i_s, m_l_s, m_a_s, w_istore, w_lstore, w_astore, w_iinc, w_iadd, w_isub, w_imul, w_iand, w_ior, w_ixor, w_ishl, w_ishr, w_iushr, w_idiv, w_irem, w_ineg, w_ladd, w_lsub, w_lmul, w_ldiv, w_lrem, w_lcmp, w_i2l, w_l2i, w_i2b, w_i2s, w_dupi, w_dupr, w_popi, w_popr, w_dup2, w_goto, w_cut, w_switch, sw_nil, sw_cons, w_iald, w_bald, w_zald, w_aald, w_iast, w_bast, w_zast, w_ireturn, w_zr0, w_zr1, w_lreturn, w_areturn, w_vreturn, w_cpy, w_mmax, w_mmin, w_sald, w_slen, sc_nil, sc_i, sc_r, sc_l, tl_s, tl_n, ls1, ls2, lk1, hd0, Int.reduceToNat, Nat.reduceAdd, Nat.reduceLeDiff, Nat.reduceMul, true_and, and_true, w_icmp_eq, w_icmp_ne, w_icmp_lt, w_icmp_ge, w_icmp_gt, w_icmp_le, w_if_eq, w_if_ne, w_if_lt, w_if_ge, w_if_gt, w_if_le, tX7_lookOf_0, kX7_lookOf_0, tX7_lookOf_20, kX7_lookOf_20, tX7_lookOf_22, kX7_lookOf_22, tX7_lookOf_60, kX7_lookOf_60, tX7_lookOf_67, kX7_lookOf_67, tX7_lookOf_74, kX7_lookOf_74, tX7_lookOf_81, kX7_lookOf_81, tX7_lookOf_87, kX7_lookOf_87, tX7_lookOf_103, kX7_lookOf_103, tX7_lookOf_104, kX7_lookOf_104, ci_46, ci_2, ci_5, wc_X7_has, ci_6, ci_1, ci_3, ci_4, wc_X7_roves, ci_14, wc_X7_nextLiving, lg_0, lg_1, k0, l0, ← zn0, nI_eq, nI_add]
      try simp only [cm_1, cm_1000000, cm_1000001, cm_1000002, cm_1000003, cm_1000010, cm_1000100, lm_1000001, lm_1000002]
      refine ⟨fun _ => exj (by omega) ?_, fun q => absurd trivial q⟩
      rw [e6]
      simp (disch := omega) only [nI_eq]
      have n20 : ¬ (2 : Nat) = 0 := by decide
      refine ⟨fun q => ?_, fun q1 => ⟨fun q => ?_, fun q2 => ⟨fun q => ?_, fun q3 => ⟨fun q => ?_, fun q4 => ?_⟩⟩⟩⟩
      · rw [if_pos q] at hq
        refine callOk (show d + 1 < d + 2 by omega) (z_roves1 ha h hw hp ?_)
        simp (disch := omega) only [w_N, w_iconst, w_lcst, w_iload, w_lload, w_aload, m_i_s, m_l_s, m_a_s, w_istore, w_lstore, w_astore, w_iinc, w_iadd, w_isub, w_imul, w_iand, w_ior, w_ixor, w_ishl, w_ishr, w_iushr, w_idiv, w_irem, w_ineg, w_ladd, w_lsub, w_lmul, w_ldiv, w_lrem, w_lcmp, w_i2l, w_l2i, w_i2b, w_i2s, w_dupi, w_dupr, w_popi, w_popr, w_dup2, w_goto, w_cut, w_switch, sw_nil, sw_cons, w_iald, w_bald, w_zald, w_aald, w_iast, w_bast, w_zast, w_ireturn, w_zr0, w_zr1, w_lreturn, w_areturn, w_vreturn, w_cpy, w_mmax, w_mmin, w_sald, w_slen, sc_nil, sc_i, sc_r, sc_l, tl_s, tl_n, ls1, ls2, lk1, hd0, Int.reduceToNat, Nat.reduceAdd, Nat.reduceLeDiff, Nat.reduceMul, true_and, and_true, w_icmp_eq, w_icmp_ne, w_icmp_lt, w_icmp_ge, w_icmp_gt, w_icmp_le, w_if_eq, w_if_ne, w_if_lt, w_if_ge, w_if_gt, w_if_le, tX7_lookOf_0, kX7_lookOf_0, tX7_lookOf_20, kX7_lookOf_20, tX7_lookOf_22, kX7_lookOf_22, tX7_lookOf_60, kX7_lookOf_60, tX7_lookOf_67, kX7_lookOf_67, tX7_lookOf_74, kX7_lookOf_74, tX7_lookOf_81, kX7_lookOf_81, tX7_lookOf_87, kX7_lookOf_87, tX7_lookOf_103, kX7_lookOf_103, tX7_lookOf_104, kX7_lookOf_104, ci_46, ci_2, ci_5, wc_X7_has, ci_6, ci_1, ci_3, ci_4, wc_X7_roves, ci_14, wc_X7_nextLiving, lg_0, lg_1]
        try simp only [cm_1, cm_1000000, cm_1000001, cm_1000002, cm_1000003, cm_1000010, cm_1000100, lm_1000001, lm_1000002]
        rw [lkR_e (by have := rvu_ok (l := C 7 p) hP hp; omega)] at hq
        exact hq
      · rw [if_neg q1, if_pos q] at hq
        refine exj (by omega) ?_
        rw [e7]
        exact hq
      · rw [if_neg q1, if_neg q2, if_pos q] at hq
        refine callOk (show d + 1 < d + 2 by omega) (z_roves2 ha h hw hp ?_)
        simp (disch := omega) only [w_N, w_iconst, w_lcst, w_iload, w_lload, w_aload, m_i_s, m_l_s, m_a_s, w_istore, w_lstore, w_astore, w_iinc, w_iadd, w_isub, w_imul, w_iand, w_ior, w_ixor, w_ishl, w_ishr, w_iushr, w_idiv, w_irem, w_ineg, w_ladd, w_lsub, w_lmul, w_ldiv, w_lrem, w_lcmp, w_i2l, w_l2i, w_i2b, w_i2s, w_dupi, w_dupr, w_popi, w_popr, w_dup2, w_goto, w_cut, w_switch, sw_nil, sw_cons, w_iald, w_bald, w_zald, w_aald, w_iast, w_bast, w_zast, w_ireturn, w_zr0, w_zr1, w_lreturn, w_areturn, w_vreturn, w_cpy, w_mmax, w_mmin, w_sald, w_slen, sc_nil, sc_i, sc_r, sc_l, tl_s, tl_n, ls1, ls2, lk1, hd0, Int.reduceToNat, Nat.reduceAdd, Nat.reduceLeDiff, Nat.reduceMul, true_and, and_true, w_icmp_eq, w_icmp_ne, w_icmp_lt, w_icmp_ge, w_icmp_gt, w_icmp_le, w_if_eq, w_if_ne, w_if_lt, w_if_ge, w_if_gt, w_if_le, tX7_lookOf_0, kX7_lookOf_0, tX7_lookOf_20, kX7_lookOf_20, tX7_lookOf_22, kX7_lookOf_22, tX7_lookOf_60, kX7_lookOf_60, tX7_lookOf_67, kX7_lookOf_67, tX7_lookOf_74, kX7_lookOf_74, tX7_lookOf_81, kX7_lookOf_81, tX7_lookOf_87, kX7_lookOf_87, tX7_lookOf_103, kX7_lookOf_103, tX7_lookOf_104, kX7_lookOf_104, ci_46, ci_2, ci_5, wc_X7_has, ci_6, ci_1, ci_3, ci_4, wc_X7_roves, ci_14, wc_X7_nextLiving, lg_0, lg_1]
        try simp only [cm_1, cm_1000000, cm_1000001, cm_1000002, cm_1000003, cm_1000010, cm_1000100, lm_1000001, lm_1000002]
        rw [lkR_e (by have := rvd_ok (l := C 7 p) hP hp (by have := (hj p hp).2.1; omega); omega)] at hq
        exact hq
      · rw [if_neg q1, if_neg q2, if_neg q3, if_pos q] at hq
        refine callOk (show d + 1 < d + 2 by omega) (z_nextLiving ha h hw hp ?_)
        simp (disch := omega) only [w_N, w_iconst, w_lcst, w_iload, w_lload, w_aload, m_i_s, m_l_s, m_a_s, w_istore, w_lstore, w_astore, w_iinc, w_iadd, w_isub, w_imul, w_iand, w_ior, w_ixor, w_ishl, w_ishr, w_iushr, w_idiv, w_irem, w_ineg, w_ladd, w_lsub, w_lmul, w_ldiv, w_lrem, w_lcmp, w_i2l, w_l2i, w_i2b, w_i2s, w_dupi, w_dupr, w_popi, w_popr, w_dup2, w_goto, w_cut, w_switch, sw_nil, sw_cons, w_iald, w_bald, w_zald, w_aald, w_iast, w_bast, w_zast, w_ireturn, w_zr0, w_zr1, w_lreturn, w_areturn, w_vreturn, w_cpy, w_mmax, w_mmin, w_sald, w_slen, sc_nil, sc_i, sc_r, sc_l, tl_s, tl_n, ls1, ls2, lk1, hd0, Int.reduceToNat, Nat.reduceAdd, Nat.reduceLeDiff, Nat.reduceMul, true_and, and_true, w_icmp_eq, w_icmp_ne, w_icmp_lt, w_icmp_ge, w_icmp_gt, w_icmp_le, w_if_eq, w_if_ne, w_if_lt, w_if_ge, w_if_gt, w_if_le, tX7_lookOf_0, kX7_lookOf_0, tX7_lookOf_20, kX7_lookOf_20, tX7_lookOf_22, kX7_lookOf_22, tX7_lookOf_60, kX7_lookOf_60, tX7_lookOf_67, kX7_lookOf_67, tX7_lookOf_74, kX7_lookOf_74, tX7_lookOf_81, kX7_lookOf_81, tX7_lookOf_87, kX7_lookOf_87, tX7_lookOf_103, kX7_lookOf_103, tX7_lookOf_104, kX7_lookOf_104, ci_46, ci_2, ci_5, wc_X7_has, ci_6, ci_1, ci_3, ci_4, wc_X7_roves, ci_14, wc_X7_nextLiving, lg_0, lg_1]
        try simp only [cm_1, cm_1000000, cm_1000001, cm_1000002, cm_1000003, cm_1000010, cm_1000100, lm_1000001, lm_1000002]
        exact hq
      · rw [if_neg q1, if_neg q2, if_neg q3, if_neg q4] at hq
        refine exj (by omega) ?_
        rw [e3, hrem]
        simp (disch := omega) only [nI_eq]
        refine ⟨n20, fun q => ?_, fun q => ?_⟩
        · rw [if_neg q] at hq; exact hq
        · rw [if_pos q] at hq
          refine callOk (show d + 1 < d + 2 by omega) (z_nextLiving ha h hw hp ?_)
          simp (disch := omega) only [w_N, w_iconst, w_lcst, w_iload, w_lload, w_aload, m_i_s, m_l_s, m_a_s, w_istore, w_lstore, w_astore, w_iinc, w_iadd, w_isub, w_imul, w_iand, w_ior, w_ixor, w_ishl, w_ishr, w_iushr, w_idiv, w_irem, w_ineg, w_ladd, w_lsub, w_lmul, w_ldiv, w_lrem, w_lcmp, w_i2l, w_l2i, w_i2b, w_i2s, w_dupi, w_dupr, w_popi, w_popr, w_dup2, w_goto, w_cut, w_switch, sw_nil, sw_cons, w_iald, w_bald, w_zald, w_aald, w_iast, w_bast, w_zast, w_ireturn, w_zr0, w_zr1, w_lreturn, w_areturn, w_vreturn, w_cpy, w_mmax, w_mmin, w_sald, w_slen, sc_nil, sc_i, sc_r, sc_l, tl_s, tl_n, ls1, ls2, lk1, hd0, Int.reduceToNat, Nat.reduceAdd, Nat.reduceLeDiff, Nat.reduceMul, true_and, and_true, w_icmp_eq, w_icmp_ne, w_icmp_lt, w_icmp_ge, w_icmp_gt, w_icmp_le, w_if_eq, w_if_ne, w_if_lt, w_if_ge, w_if_gt, w_if_le, tX7_lookOf_0, kX7_lookOf_0, tX7_lookOf_20, kX7_lookOf_20, tX7_lookOf_22, kX7_lookOf_22, tX7_lookOf_60, kX7_lookOf_60, tX7_lookOf_67, kX7_lookOf_67, tX7_lookOf_74, kX7_lookOf_74, tX7_lookOf_81, kX7_lookOf_81, tX7_lookOf_87, kX7_lookOf_87, tX7_lookOf_103, kX7_lookOf_103, tX7_lookOf_104, kX7_lookOf_104, ci_46, ci_2, ci_5, wc_X7_has, ci_6, ci_1, ci_3, ci_4, wc_X7_roves, ci_14, wc_X7_nextLiving, lg_0, lg_1]
          try simp only [cm_1, cm_1000000, cm_1000001, cm_1000002, cm_1000003, cm_1000010, cm_1000100, lm_1000001, lm_1000002]
          exact hq
end
