theorem um_same (M : Mm) (a k : Nat) : um M a k (M a k) = M := by
  funext x y
  unfold um
  by_cases h : x = a
  · rw [if_pos h]
    by_cases z : y = k
    · rw [if_pos z, h, z]
    · rw [if_neg z]
  · rw [if_neg h]
theorem cu_comm {C : Ci} {f g i j v w : Nat} (h : f ≠ g) : cu (cu C f i v) g j w = cu (cu C g j w) f i v := by
  funext x y
  by_cases h1 : x = f
  · subst h1
    rw [cu_ne h, cu_at, cu_at, cu_ne h]
  · by_cases h2 : x = g
    · subst h2
      rw [cu_ne (fun q => h q.symm), cu_at, cu_at, cu_ne (fun q => h q.symm)]
    · rw [cu_ne h2, cu_ne h1, cu_ne h1, cu_ne h2]
theorem bt_bit (f : Nat → Prop) [∀ j, Decidable (f j)] : ∀ k i, btK f k / 2 ^ i % 2 = if i < k ∧ f i then 1 else 0
  | 0, i => by rw [if_neg (fun q => by omega)]; simp [btK]
  | k + 1, i => by
    have ih := bt_bit f k i
    have hb := btK_lt f k
    unfold btK
    by_cases hf : f k
    · rw [if_pos hf]
      rcases Nat.lt_trichotomy i k with q | q | q
      · rw [show 2 ^ k = 2 ^ i * (2 * 2 ^ (k - i - 1)) by rw [← Nat.pow_succ', ← Nat.pow_add]; congr 1; omega, Nat.add_mul_div_left _ _ (Nat.two_pow_pos i), Nat.add_mul_mod_self_left, ih]
        by_cases hi : f i
        · rw [if_pos ⟨q, hi⟩, if_pos ⟨by omega, hi⟩]
        · rw [if_neg (fun z => hi z.2), if_neg (fun z => hi z.2)]
      · subst q
        rw [Nat.add_div_right _ (Nat.two_pow_pos i), Nat.div_eq_of_lt hb, if_pos ⟨by omega, hf⟩]
      · have hl : btK f k + 2 ^ k < 2 ^ i := by
          have : 2 ^ (k + 1) ≤ 2 ^ i := Nat.pow_le_pow_right (by decide) q
          rw [Nat.pow_succ] at this
          omega
        rw [Nat.div_eq_of_lt hl, if_neg (fun z => by omega)]
    · rw [if_neg hf, ih]
      by_cases q : i < k ∧ f i
      · rw [if_pos q, if_pos ⟨by omega, q.2⟩]
      · rw [if_neg q, if_neg]
        intro z
        by_cases e : i = k
        · exact hf (by rw [← e]; exact z.2)
        · exact q ⟨by omega, z.2⟩
theorem sm_ct (f : Nat → Prop) [∀ j, Decidable (f j)] (P : Nat) : ∀ k, smK (fun i => btK f P / 2 ^ i % 2) k = ctK f (min k P)
  | 0 => by rw [Nat.zero_min]; rfl
  | k + 1 => by
    show smK (fun i => btK f P / 2 ^ i % 2) k + btK f P / 2 ^ k % 2 = _
    rw [sm_ct f P k, bt_bit]
    by_cases h : k < P
    · rw [show min k P = k by omega, show min (k + 1) P = k + 1 by omega]
      show _ = if f k then ctK f k + 1 else ctK f k
      by_cases z : f k
      · rw [if_pos ⟨h, z⟩, if_pos z]
      · rw [if_neg (fun q => z q.2), if_neg z, Nat.add_zero]
    · rw [show min k P = P by omega, show min (k + 1) P = P by omega, if_neg (fun q => h q.1), Nat.add_zero]
/-- who dies in a tick -/
def dth (C : Ci) (k : Nat) : Nat := ctK (fun j => C 9 j = 1 ∧ C 10 j ≤ 1) k
def frP (a : Nat) (M M' : Mm) : Prop := ∀ x, x ≠ a → x ≠ 242 → M' x = M x
section
variable {d a : Nat} {M : Mm} {L : Ml} {Q : Qt} {C : Ci}
theorem z_those (ha : isT a) (h : rR M a 0 C) (hP : C 0 0 ≤ 8) (h9 : ∀ j, j < C 0 0 → C 9 j ≤ 2) {s : Nat} (hs : s < 100) (hq : Q (some (.int (nI (bts C s)))) M L) : Good d nX7_those [.ref a, .int (nI s)] M L Q := by
  obtain ⟨k0, l0⟩ := isT_f ha
  have e0 : M a 0 = nI (C 0 0) := h.1 0 (by decide)
  refine eX7_those _ _ ?_
  simp (disch := omega) only [w_N, w_iconst, w_lcst, w_iload, w_lload, w_aload, m_i_s, m_l_s, m_a_s, w_istore, w_lstore, w_astore, w_iinc, w_iadd, w_isub, w_imul, w_iand, w_ior, w_ixor, w_ishl, w_ishr, w_iushr, w_idiv, w_irem, w_ineg, w_ladd, w_lsub, w_lmul, w_ldiv, w_lrem, w_lcmp, w_i2l, w_l2i, w_i2b, w_i2s, w_dupi, w_dupr, w_popi, w_popr, w_dup2, w_goto, w_cut, w_switch, sw_nil, sw_cons, w_iald, w_bald, w_zald, w_aald, w_iast, w_bast, w_zast, w_ireturn, w_zr0, w_zr1, w_lreturn, w_areturn, w_vreturn, w_cpy, w_mmax, w_mmin, w_sald, w_slen, sc_nil, sc_i, sc_r, sc_l, tl_s, tl_n, ls1, ls2, lk1, hd0, Int.reduceToNat, Nat.reduceAdd, Nat.reduceLeDiff, Nat.reduceMul, true_and, and_true, w_icmp_eq, w_icmp_ne, w_icmp_lt, w_icmp_ge, w_icmp_gt, w_icmp_le, w_if_eq, w_if_ne, w_if_lt, w_if_ge, w_if_gt, w_if_le, tX7_those_0, kX7_those_0, tX7_those_4, kX7_those_4, tX7_those_28, kX7_those_28, tX7_those_29, kX7_those_29, tX7_those_37, kX7_those_37, hX7_those_4, ci_0, ci_1, ci_46, lg_0, lg_1, lg_2, lg_3]
  try simp only [cm_1, cm_1000000, cm_1000001, cm_1000002, cm_1000003, cm_1000010, cm_1000100, lm_1000001, lm_1000002]
  have loop : ∀ m k, k + m = C 0 0 → Runs nX7_those d Q 4 [some (.ref a), some (.int (nI s)), some (.int (nI (btK (fun j => C 9 j = s) k))), some (.int (nI k))] [] M L := by
    intro m
    induction m with
    | zero =>
      intro k hk
      refine wpH_runs oX7_those 60 4 oX7_those_4 ?_
      simp (disch := omega) only [w_N, w_iconst, w_lcst, w_iload, w_lload, w_aload, m_i_s, m_l_s, m_a_s, w_istore, w_lstore, w_astore, w_iinc, w_iadd, w_isub, w_imul, w_iand, w_ior, w_ixor, w_ishl, w_ishr, w_iushr, w_idiv, w_irem, w_ineg, w_ladd, w_lsub, w_lmul, w_ldiv, w_lrem, w_lcmp, w_i2l, w_l2i, w_i2b, w_i2s, w_dupi, w_dupr, w_popi, w_popr, w_dup2, w_goto, w_cut, w_switch, sw_nil, sw_cons, w_iald, w_bald, w_zald, w_aald, w_iast, w_bast, w_zast, w_ireturn, w_zr0, w_zr1, w_lreturn, w_areturn, w_vreturn, w_cpy, w_mmax, w_mmin, w_sald, w_slen, sc_nil, sc_i, sc_r, sc_l, tl_s, tl_n, ls1, ls2, lk1, hd0, Int.reduceToNat, Nat.reduceAdd, Nat.reduceLeDiff, Nat.reduceMul, true_and, and_true, w_icmp_eq, w_icmp_ne, w_icmp_lt, w_icmp_ge, w_icmp_gt, w_icmp_le, w_if_eq, w_if_ne, w_if_lt, w_if_ge, w_if_gt, w_if_le, tX7_those_0, kX7_those_0, tX7_those_4, kX7_those_4, tX7_those_28, kX7_those_28, tX7_those_29, kX7_those_29, tX7_those_37, kX7_those_37, hX7_those_4, ci_0, ci_1, ci_46, lg_0, lg_1, lg_2, lg_3, k0, l0, nI_add]
      try simp only [cm_1, cm_1000000, cm_1000001, cm_1000002, cm_1000003, cm_1000010, cm_1000100, lm_1000001, lm_1000002]
      refine exj (by omega) ?_
      rw [e0]
      simp (disch := omega) only [nI_leI]
      refine ⟨fun _ => ?_, fun z => absurd (by omega) z⟩
      unfold bts at hq
      rw [show C 0 0 = k by omega] at hq
      exact hq
    | succ m ih =>
      intro k hk
      refine wpH_runs oX7_those 60 4 oX7_those_4 ?_
      simp (disch := omega) only [w_N, w_iconst, w_lcst, w_iload, w_lload, w_aload, m_i_s, m_l_s, m_a_s, w_istore, w_lstore, w_astore, w_iinc, w_iadd, w_isub, w_imul, w_iand, w_ior, w_ixor, w_ishl, w_ishr, w_iushr, w_idiv, w_irem, w_ineg, w_ladd, w_lsub, w_lmul, w_ldiv, w_lrem, w_lcmp, w_i2l, w_l2i, w_i2b, w_i2s, w_dupi, w_dupr, w_popi, w_popr, w_dup2, w_goto, w_cut, w_switch, sw_nil, sw_cons, w_iald, w_bald, w_zald, w_aald, w_iast, w_bast, w_zast, w_ireturn, w_zr0, w_zr1, w_lreturn, w_areturn, w_vreturn, w_cpy, w_mmax, w_mmin, w_sald, w_slen, sc_nil, sc_i, sc_r, sc_l, tl_s, tl_n, ls1, ls2, lk1, hd0, Int.reduceToNat, Nat.reduceAdd, Nat.reduceLeDiff, Nat.reduceMul, true_and, and_true, w_icmp_eq, w_icmp_ne, w_icmp_lt, w_icmp_ge, w_icmp_gt, w_icmp_le, w_if_eq, w_if_ne, w_if_lt, w_if_ge, w_if_gt, w_if_le, tX7_those_0, kX7_those_0, tX7_those_4, kX7_those_4, tX7_those_28, kX7_those_28, tX7_those_29, kX7_those_29, tX7_those_37, kX7_those_37, hX7_those_4, ci_0, ci_1, ci_46, lg_0, lg_1, lg_2, lg_3, k0, l0, nI_add]
      try simp only [cm_1, cm_1000000, cm_1000001, cm_1000002, cm_1000003, cm_1000010, cm_1000100, lm_1000001, lm_1000002]
      refine exj (by omega) ?_
      rw [e0]
      simp (disch := omega) only [nI_leI]
      refine ⟨fun z => absurd z (by omega), fun _ => exj (by omega) ?_⟩
      have := h9 k (by omega)
      have e9 := h.h (show k < C 0 0 by omega)
      rw [Nat.zero_add] at e9
      rw [e9]
      simp (disch := omega) only [nI_eq]
      refine ⟨fun z => ?_, fun z => ?_⟩
      · rw [n_or, Nat.or_zero, bt_no (fun j => C 9 j = s) z]
        exact ih (k + 1) (by omega)
      · rw [bt_or (fun j => C 9 j = s) (by omega) z]
        exact ih (k + 1) (by omega)
  exact loop (C 0 0) 0 (by omega)
theorem z_bitsOf {s : Nat} (hs : s < 256) (hq : Q (some (.int (nI (smK (fun i => s / 2 ^ i % 2) 9)))) M L) : Good d nX7_bitsOf [.int (nI s)] M L Q := by
  refine eX7_bitsOf _ ?_
  simp (disch := omega) only [w_N, w_iconst, w_lcst, w_iload, w_lload, w_aload, m_i_s, m_l_s, m_a_s, w_istore, w_lstore, w_astore, w_iinc, w_iadd, w_isub, w_imul, w_iand, w_ior, w_ixor, w_ishl, w_ishr, w_iushr, w_idiv, w_irem, w_ineg, w_ladd, w_lsub, w_lmul, w_ldiv, w_lrem, w_lcmp, w_i2l, w_l2i, w_i2b, w_i2s, w_dupi, w_dupr, w_popi, w_popr, w_dup2, w_goto, w_cut, w_switch, sw_nil, sw_cons, w_iald, w_bald, w_zald, w_aald, w_iast, w_bast, w_zast, w_ireturn, w_zr0, w_zr1, w_lreturn, w_areturn, w_vreturn, w_cpy, w_mmax, w_mmin, w_sald, w_slen, sc_nil, sc_i, sc_r, sc_l, tl_s, tl_n, ls1, ls2, lk1, hd0, Int.reduceToNat, Nat.reduceAdd, Nat.reduceLeDiff, Nat.reduceMul, true_and, and_true, w_icmp_eq, w_icmp_ne, w_icmp_lt, w_icmp_ge, w_icmp_gt, w_icmp_le, w_if_eq, w_if_ne, w_if_lt, w_if_ge, w_if_gt, w_if_le, tX7_bitsOf_0, kX7_bitsOf_0, tX7_bitsOf_4, kX7_bitsOf_4, tX7_bitsOf_24, kX7_bitsOf_24, hX7_bitsOf_4, ci_0, ci_9, ci_1, lg_0, lg_1, lg_2]
  try simp only [cm_1, cm_1000000, cm_1000001, cm_1000002, cm_1000003, cm_1000010, cm_1000100, lm_1000001, lm_1000002]
  have loop : ∀ m k, k + m = 9 → Runs nX7_bitsOf d Q 4 [some (.int (nI s)), some (.int (nI (smK (fun i => s / 2 ^ i % 2) k))), some (.int (nI k))] [] M L := by
    intro m
    induction m with
    | zero =>
      intro k hk
      have e : k = 9 := by omega
      subst e
      refine wpH_runs oX7_bitsOf 60 4 oX7_bitsOf_4 ?_
      simp (disch := omega) only [w_N, w_iconst, w_lcst, w_iload, w_lload, w_aload, m_i_s, m_l_s, m_a_s, w_istore, w_lstore, w_astore, w_iinc, w_iadd, w_isub, w_imul, w_iand, w_ior, w_ixor, w_ishl, w_ishr, w_iushr, w_idiv, w_irem, w_ineg, w_ladd, w_lsub, w_lmul, w_ldiv, w_lrem, w_lcmp, w_i2l, w_l2i, w_i2b, w_i2s, w_dupi, w_dupr, w_popi, w_popr, w_dup2, w_goto, w_cut, w_switch, sw_nil, sw_cons, w_iald, w_bald, w_zald, w_aald, w_iast, w_bast, w_zast, w_ireturn, w_zr0, w_zr1, w_lreturn, w_areturn, w_vreturn, w_cpy, w_mmax, w_mmin, w_sald, w_slen, sc_nil, sc_i, sc_r, sc_l, tl_s, tl_n, ls1, ls2, lk1, hd0, Int.reduceToNat, Nat.reduceAdd, Nat.reduceLeDiff, Nat.reduceMul, true_and, and_true, w_icmp_eq, w_icmp_ne, w_icmp_lt, w_icmp_ge, w_icmp_gt, w_icmp_le, w_if_eq, w_if_ne, w_if_lt, w_if_ge, w_if_gt, w_if_le, tX7_bitsOf_0, kX7_bitsOf_0, tX7_bitsOf_4, kX7_bitsOf_4, tX7_bitsOf_24, kX7_bitsOf_24, hX7_bitsOf_4, ci_0, ci_9, ci_1, lg_0, lg_1, lg_2, nI_leI]
      try simp only [cm_1, cm_1000000, cm_1000001, cm_1000002, cm_1000003, cm_1000010, cm_1000100, lm_1000001, lm_1000002]
      exact ⟨fun _ => hq, fun z => absurd trivial z⟩
    | succ m ih =>
      intro k hk
      refine wpH_runs oX7_bitsOf 60 4 oX7_bitsOf_4 ?_
      simp (disch := omega) only [w_N, w_iconst, w_lcst, w_iload, w_lload, w_aload, m_i_s, m_l_s, m_a_s, w_istore, w_lstore, w_astore, w_iinc, w_iadd, w_isub, w_imul, w_iand, w_ior, w_ixor, w_ishl, w_ishr, w_iushr, w_idiv, w_irem, w_ineg, w_ladd, w_lsub, w_lmul, w_ldiv, w_lrem, w_lcmp, w_i2l, w_l2i, w_i2b, w_i2s, w_dupi, w_dupr, w_popi, w_popr, w_dup2, w_goto, w_cut, w_switch, sw_nil, sw_cons, w_iald, w_bald, w_zald, w_aald, w_iast, w_bast, w_zast, w_ireturn, w_zr0, w_zr1, w_lreturn, w_areturn, w_vreturn, w_cpy, w_mmax, w_mmin, w_sald, w_slen, sc_nil, sc_i, sc_r, sc_l, tl_s, tl_n, ls1, ls2, lk1, hd0, Int.reduceToNat, Nat.reduceAdd, Nat.reduceLeDiff, Nat.reduceMul, true_and, and_true, w_icmp_eq, w_icmp_ne, w_icmp_lt, w_icmp_ge, w_icmp_gt, w_icmp_le, w_if_eq, w_if_ne, w_if_lt, w_if_ge, w_if_gt, w_if_le, tX7_bitsOf_0, kX7_bitsOf_0, tX7_bitsOf_4, kX7_bitsOf_4, tX7_bitsOf_24, kX7_bitsOf_24, hX7_bitsOf_4, ci_0, ci_9, ci_1, lg_0, lg_1, lg_2, nI_leI]
      try simp only [cm_1, cm_1000000, cm_1000001, cm_1000002, cm_1000003, cm_1000010, cm_1000100, lm_1000001, lm_1000002]
      refine ⟨fun z => absurd z (by omega), fun _ => ?_⟩
      rw [shr1 s hs k (by omega), nI_add, nI_add]
      exact ih (k + 1) (by omega)
  exact loop 9 0 (by omega)
theorem z_dead (ha : isT a) (h : rR M a 0 C) (hP : C 0 0 ≤ 8) (h9 : ∀ j, j < C 0 0 → C 9 j ≤ 2) (hq : Q (some (.int (nI (ded C)))) M L) : Good (d + 1) nX7_dead [.ref a] M L Q := by
  refine eX7_dead _ ?_
  simp (disch := omega) only [w_N, w_iconst, w_lcst, w_iload, w_lload, w_aload, m_i_s, m_l_s, m_a_s, w_istore, w_lstore, w_astore, w_iinc, w_iadd, w_isub, w_imul, w_iand, w_ior, w_ixor, w_ishl, w_ishr, w_iushr, w_idiv, w_irem, w_ineg, w_ladd, w_lsub, w_lmul, w_ldiv, w_lrem, w_lcmp, w_i2l, w_l2i, w_i2b, w_i2s, w_dupi, w_dupr, w_popi, w_popr, w_dup2, w_goto, w_cut, w_switch, sw_nil, sw_cons, w_iald, w_bald, w_zald, w_aald, w_iast, w_bast, w_zast, w_ireturn, w_zr0, w_zr1, w_lreturn, w_areturn, w_vreturn, w_cpy, w_mmax, w_mmin, w_sald, w_slen, sc_nil, sc_i, sc_r, sc_l, tl_s, tl_n, ls1, ls2, lk1, hd0, Int.reduceToNat, Nat.reduceAdd, Nat.reduceLeDiff, Nat.reduceMul, true_and, and_true, w_icmp_eq, w_icmp_ne, w_icmp_lt, w_icmp_ge, w_icmp_gt, w_icmp_le, w_if_eq, w_if_ne, w_if_lt, w_if_ge, w_if_gt, w_if_le, tX7_dead_0, kX7_dead_0, ci_2, wc_X7_those, wc_X7_bitsOf, lg_0]
  try simp only [cm_1, cm_1000000, cm_1000001, cm_1000002, cm_1000003, cm_1000010, cm_1000100, lm_1000001, lm_1000002]
  refine callOk (Nat.lt_succ_self d) (z_those ha h hP h9 (by decide) ?_)
  simp (disch := omega) only [w_N, w_iconst, w_lcst, w_iload, w_lload, w_aload, m_i_s, m_l_s, m_a_s, w_istore, w_lstore, w_astore, w_iinc, w_iadd, w_isub, w_imul, w_iand, w_ior, w_ixor, w_ishl, w_ishr, w_iushr, w_idiv, w_irem, w_ineg, w_ladd, w_lsub, w_lmul, w_ldiv, w_lrem, w_lcmp, w_i2l, w_l2i, w_i2b, w_i2s, w_dupi, w_dupr, w_popi, w_popr, w_dup2, w_goto, w_cut, w_switch, sw_nil, sw_cons, w_iald, w_bald, w_zald, w_aald, w_iast, w_bast, w_zast, w_ireturn, w_zr0, w_zr1, w_lreturn, w_areturn, w_vreturn, w_cpy, w_mmax, w_mmin, w_sald, w_slen, sc_nil, sc_i, sc_r, sc_l, tl_s, tl_n, ls1, ls2, lk1, hd0, Int.reduceToNat, Nat.reduceAdd, Nat.reduceLeDiff, Nat.reduceMul, true_and, and_true, w_icmp_eq, w_icmp_ne, w_icmp_lt, w_icmp_ge, w_icmp_gt, w_icmp_le, w_if_eq, w_if_ne, w_if_lt, w_if_ge, w_if_gt, w_if_le, tX7_dead_0, kX7_dead_0, ci_2, wc_X7_those, wc_X7_bitsOf, lg_0]
  try simp only [cm_1, cm_1000000, cm_1000001, cm_1000002, cm_1000003, cm_1000010, cm_1000100, lm_1000001, lm_1000002]
  have hl : bts C 2 < 256 := Nat.lt_of_lt_of_le (btK_lt _ _) (show 2 ^ C 0 0 ≤ 2 ^ 8 from Nat.pow_le_pow_right (by decide) hP)
  refine callOk (Nat.lt_succ_self d) (z_bitsOf hl ?_)
  simp (disch := omega) only [w_N, w_iconst, w_lcst, w_iload, w_lload, w_aload, m_i_s, m_l_s, m_a_s, w_istore, w_lstore, w_astore, w_iinc, w_iadd, w_isub, w_imul, w_iand, w_ior, w_ixor, w_ishl, w_ishr, w_iushr, w_idiv, w_irem, w_ineg, w_ladd, w_lsub, w_lmul, w_ldiv, w_lrem, w_lcmp, w_i2l, w_l2i, w_i2b, w_i2s, w_dupi, w_dupr, w_popi, w_popr, w_dup2, w_goto, w_cut, w_switch, sw_nil, sw_cons, w_iald, w_bald, w_zald, w_aald, w_iast, w_bast, w_zast, w_ireturn, w_zr0, w_zr1, w_lreturn, w_areturn, w_vreturn, w_cpy, w_mmax, w_mmin, w_sald, w_slen, sc_nil, sc_i, sc_r, sc_l, tl_s, tl_n, ls1, ls2, lk1, hd0, Int.reduceToNat, Nat.reduceAdd, Nat.reduceLeDiff, Nat.reduceMul, true_and, and_true, w_icmp_eq, w_icmp_ne, w_icmp_lt, w_icmp_ge, w_icmp_gt, w_icmp_le, w_if_eq, w_if_ne, w_if_lt, w_if_ge, w_if_gt, w_if_le, tX7_dead_0, kX7_dead_0, ci_2, wc_X7_those, wc_X7_bitsOf, lg_0]
  try simp only [cm_1, cm_1000000, cm_1000001, cm_1000002, cm_1000003, cm_1000010, cm_1000100, lm_1000001, lm_1000002]
  unfold bts
  rw [sm_ct, show min 9 (C 0 0) = C 0 0 by omega]
  exact hq
theorem z_giveRole (ha : isT a) (h : rR M a 0 C) (hP : C 0 0 ≤ 8) {p : Nat} (hq : ∀ M', rR M' a 0 (rol C p) → fr1 a M M' → Q none M' L) : Good d nX7_giveRole [.ref a, .int (nI p)] M L Q := by
  obtain ⟨k0, l0⟩ := isT_f ha
  refine eX7_giveRole _ _ ?_
  simp (disch := omega) only [w_N, w_iconst, w_lcst, w_iload, w_lload, w_aload, m_i_s, m_l_s, m_a_s, w_istore, w_lstore, w_astore, w_iinc, w_iadd, w_isub, w_imul, w_iand, w_ior, w_ixor, w_ishl, w_ishr, w_iushr, w_idiv, w_irem, w_ineg, w_ladd, w_lsub, w_lmul, w_ldiv, w_lrem, w_lcmp, w_i2l, w_l2i, w_i2b, w_i2s, w_dupi, w_dupr, w_popi, w_popr, w_dup2, w_goto, w_cut, w_switch, sw_nil, sw_cons, w_iald, w_bald, w_zald, w_aald, w_iast, w_bast, w_zast, w_ireturn, w_zr0, w_zr1, w_lreturn, w_areturn, w_vreturn, w_cpy, w_mmax, w_mmin, w_sald, w_slen, sc_nil, sc_i, sc_r, sc_l, tl_s, tl_n, ls1, ls2, lk1, hd0, Int.reduceToNat, Nat.reduceAdd, Nat.reduceLeDiff, Nat.reduceMul, true_and, and_true, w_icmp_eq, w_icmp_ne, w_icmp_lt, w_icmp_ge, w_icmp_gt, w_icmp_le, w_if_eq, w_if_ne, w_if_lt, w_if_ge, w_if_gt, w_if_le, tX7_giveRole_0, kX7_giveRole_0, tX7_giveRole_10, kX7_giveRole_10, tX7_giveRole_29, kX7_giveRole_29, hX7_giveRole_10, ci_1, ci_3, ci_0, ci_8, ci_38, lg_0, lg_1, lg_2, k0, l0]
  try simp only [cm_1, cm_1000000, cm_1000001, cm_1000002, cm_1000003, cm_1000010, cm_1000100, lm_1000001, lm_1000002]
  refine exj (by omega) (exj (by omega) ?_)
  have loop : ∀ m k (M1 : Mm), k + m = 8 → rR M1 a 0 (rlK C p k) → fr1 a M M1 → Runs nX7_giveRole d Q 10 [some (.ref a), some (.int (nI p)), some (.int (nI k))] [] M1 L := by
    intro m
    induction m with
    | zero =>
      intro k M1 hk h1 hf
      have e : k = 8 := by omega
      subst e
      refine wpH_runs oX7_giveRole 60 10 oX7_giveRole_10 ?_
      simp (disch := omega) only [w_N, w_iconst, w_lcst, w_iload, w_lload, w_aload, m_i_s, m_l_s, m_a_s, w_istore, w_lstore, w_astore, w_iinc, w_iadd, w_isub, w_imul, w_iand, w_ior, w_ixor, w_ishl, w_ishr, w_iushr, w_idiv, w_irem, w_ineg, w_ladd, w_lsub, w_lmul, w_ldiv, w_lrem, w_lcmp, w_i2l, w_l2i, w_i2b, w_i2s, w_dupi, w_dupr, w_popi, w_popr, w_dup2, w_goto, w_cut, w_switch, sw_nil, sw_cons, w_iald, w_bald, w_zald, w_aald, w_iast, w_bast, w_zast, w_ireturn, w_zr0, w_zr1, w_lreturn, w_areturn, w_vreturn, w_cpy, w_mmax, w_mmin, w_sald, w_slen, sc_nil, sc_i, sc_r, sc_l, tl_s, tl_n, ls1, ls2, lk1, hd0, Int.reduceToNat, Nat.reduceAdd, Nat.reduceLeDiff, Nat.reduceMul, true_and, and_true, w_icmp_eq, w_icmp_ne, w_icmp_lt, w_icmp_ge, w_icmp_gt, w_icmp_le, w_if_eq, w_if_ne, w_if_lt, w_if_ge, w_if_gt, w_if_le, tX7_giveRole_0, kX7_giveRole_0, tX7_giveRole_10, kX7_giveRole_10, tX7_giveRole_29, kX7_giveRole_29, hX7_giveRole_10, ci_1, ci_3, ci_0, ci_8, ci_38, lg_0, lg_1, lg_2, nI_leI]
      try simp only [cm_1, cm_1000000, cm_1000001, cm_1000002, cm_1000003, cm_1000010, cm_1000100, lm_1000001, lm_1000002]
      refine ⟨fun _ => hq M1 (h1.cg (fun i hi => ?_) (fun f g1 g2 j hj => ?_)) hf, fun z => absurd trivial z⟩
      · unfold rol rlK
        rw [if_neg (by omega), if_neg (by omega)]
      · have hj' : j < C 0 0 := hj
        unfold rol rlK
        by_cases q : f = 11
        · rw [if_pos ⟨q, hj'⟩, if_pos ⟨q, by omega⟩]
        · rw [if_neg (fun z => q z.1), if_neg (fun z => q z.1)]
    | succ m ih =>
      intro k M1 hk h1 hf
      refine wpH_runs oX7_giveRole 60 10 oX7_giveRole_10 ?_
      simp (disch := omega) only [w_N, w_iconst, w_lcst, w_iload, w_lload, w_aload, m_i_s, m_l_s, m_a_s, w_istore, w_lstore, w_astore, w_iinc, w_iadd, w_isub, w_imul, w_iand, w_ior, w_ixor, w_ishl, w_ishr, w_iushr, w_idiv, w_irem, w_ineg, w_ladd, w_lsub, w_lmul, w_ldiv, w_lrem, w_lcmp, w_i2l, w_l2i, w_i2b, w_i2s, w_dupi, w_dupr, w_popi, w_popr, w_dup2, w_goto, w_cut, w_switch, sw_nil, sw_cons, w_iald, w_bald, w_zald, w_aald, w_iast, w_bast, w_zast, w_ireturn, w_zr0, w_zr1, w_lreturn, w_areturn, w_vreturn, w_cpy, w_mmax, w_mmin, w_sald, w_slen, sc_nil, sc_i, sc_r, sc_l, tl_s, tl_n, ls1, ls2, lk1, hd0, Int.reduceToNat, Nat.reduceAdd, Nat.reduceLeDiff, Nat.reduceMul, true_and, and_true, w_icmp_eq, w_icmp_ne, w_icmp_lt, w_icmp_ge, w_icmp_gt, w_icmp_le, w_if_eq, w_if_ne, w_if_lt, w_if_ge, w_if_gt, w_if_le, tX7_giveRole_0, kX7_giveRole_0, tX7_giveRole_10, kX7_giveRole_10, tX7_giveRole_29, kX7_giveRole_29, hX7_giveRole_10, ci_1, ci_3, ci_0, ci_8, ci_38, lg_0, lg_1, lg_2, k0, l0, nI_leI, nI_add]
      try simp only [cm_1, cm_1000000, cm_1000001, cm_1000002, cm_1000003, cm_1000010, cm_1000100, lm_1000001, lm_1000002]
      refine ⟨fun z => absurd z (by omega), fun _ => exj (by omega) ?_⟩
      have h2 := h1.a11 hP k 0 (by omega)
      rw [Nat.zero_add] at h2
      exact ih (k + 1) _ (by omega) (by rw [← rlK_s]; exact h2) hf.um
  exact loop 8 0 _ (by omega) (by rw [rlK_0]; exact (h.sc 1 p (by decide) (by decide)).sc 4 0 (by decide) (by decide)) (fr1.rf.um.um)
theorem z_sitUp (ha : isT a) (h : rR M a 0 C) (hw : 3 ≤ C 0 0 ∧ C 0 0 ≤ 8) {p : Nat} (hp : p < C 0 0) (hq : ∀ M', rR M' a 0 (sit C p) → fr1 a M M' → Q none M' L) : Good (d + 1) nX7_sitUp [.ref a, .int (nI p)] M L Q := by
  obtain ⟨k0, l0⟩ := isT_f ha
  have hP8 := hw.2
  refine eX7_sitUp _ _ ?_
  simp (disch := omega) only [w_N, w_iconst, w_lcst, w_iload, w_lload, w_aload, m_i_s, m_l_s, m_a_s, w_istore, w_lstore, w_astore, w_iinc, w_iadd, w_isub, w_imul, w_iand, w_ior, w_ixor, w_ishl, w_ishr, w_iushr, w_idiv, w_irem, w_ineg, w_ladd, w_lsub, w_lmul, w_ldiv, w_lrem, w_lcmp, w_i2l, w_l2i, w_i2b, w_i2s, w_dupi, w_dupr, w_popi, w_popr, w_dup2, w_goto, w_cut, w_switch, sw_nil, sw_cons, w_iald, w_bald, w_zald, w_aald, w_iast, w_bast, w_zast, w_ireturn, w_zr0, w_zr1, w_lreturn, w_areturn, w_vreturn, w_cpy, w_mmax, w_mmin, w_sald, w_slen, sc_nil, sc_i, sc_r, sc_l, tl_s, tl_n, ls1, ls2, lk1, hd0, Int.reduceToNat, Nat.reduceAdd, Nat.reduceLeDiff, Nat.reduceMul, true_and, and_true, w_icmp_eq, w_icmp_ne, w_icmp_lt, w_icmp_ge, w_icmp_gt, w_icmp_le, w_if_eq, w_if_ne, w_if_lt, w_if_ge, w_if_gt, w_if_le, tX7_sitUp_0, kX7_sitUp_0, ci_46, ci_0, ci_38, ci_30, ci_14, ci_1, wc_X7_seatBy, lg_0, lg_1, k0, l0, nI_add]
  try simp only [cm_1, cm_1000000, cm_1000001, cm_1000002, cm_1000003, cm_1000010, cm_1000100, lm_1000001, lm_1000002]
  refine exj (by omega) (exj (by omega) (exj (by omega) ?_))
  have h3 := ((h.a9 hP8 p 0 (by omega)).a11 hP8 p 0 (by omega)).a10 hP8 p 0 (by omega)
  rw [Nat.zero_add, Nat.zero_add, Nat.zero_add] at h3
  refine callOk (Nat.lt_succ_self d) (z_seatUp ha h3 hw hp ?_)
  simp (disch := omega) only [w_N, w_iconst, w_lcst, w_iload, w_lload, w_aload, m_i_s, m_l_s, m_a_s, w_istore, w_lstore, w_astore, w_iinc, w_iadd, w_isub, w_imul, w_iand, w_ior, w_ixor, w_ishl, w_ishr, w_iushr, w_idiv, w_irem, w_ineg, w_ladd, w_lsub, w_lmul, w_ldiv, w_lrem, w_lcmp, w_i2l, w_l2i, w_i2b, w_i2s, w_dupi, w_dupr, w_popi, w_popr, w_dup2, w_goto, w_cut, w_switch, sw_nil, sw_cons, w_iald, w_bald, w_zald, w_aald, w_iast, w_bast, w_zast, w_ireturn, w_zr0, w_zr1, w_lreturn, w_areturn, w_vreturn, w_cpy, w_mmax, w_mmin, w_sald, w_slen, sc_nil, sc_i, sc_r, sc_l, tl_s, tl_n, ls1, ls2, lk1, hd0, Int.reduceToNat, Nat.reduceAdd, Nat.reduceLeDiff, Nat.reduceMul, true_and, and_true, w_icmp_eq, w_icmp_ne, w_icmp_lt, w_icmp_ge, w_icmp_gt, w_icmp_le, w_if_eq, w_if_ne, w_if_lt, w_if_ge, w_if_gt, w_if_le, tX7_sitUp_0, kX7_sitUp_0, ci_46, ci_0, ci_38, ci_30, ci_14, ci_1, wc_X7_seatBy, lg_0, lg_1, k0, l0, nI_add]
  try simp only [cm_1, cm_1000000, cm_1000001, cm_1000002, cm_1000003, cm_1000010, cm_1000100, lm_1000001, lm_1000002]
  have hlt := abv_lt (P := C 0 0) (s := p) hw.1
  have h4 := h3.a7 hP8 p (abv (C 0 0) p) (by omega)
  rw [lkR_e (by omega), Nat.zero_add] at h4
  refine exj (by omega) (hq _ ?_ fr1.rf.um.um.um.um)
  unfold sit
  rw [cu_comm (C := cu C 9 p 0) (f := 10) (g := 11) (by decide)]
  exact h4
theorem z_wink (ha : isT a) (h : rR M a 0 C) (hw : wf C) (hq : ∀ M', rR M' a 0 (wk C) → fr1 a M M' → Q none M' L) : Good d nX7_wink [.ref a] M L Q := by
  obtain ⟨k0, l0⟩ := isT_f ha
  obtain ⟨⟨hP, hP8⟩, hm, h2, h4, h5, hj⟩ := id hw
  have e4 : M a 3 = nI (C 4 0) := h.1 4 (by decide)
  have e1 : M a 1 = nI (C 1 0) := h.1 1 (by decide)
  have hm9 := (hj _ hm).2.2.2.1
  have hm7 := (hj _ hm).2.1
  have z9 : ∀ {j}, j < C 0 0 → M a (46 + j) = nI (C 9 j) := fun hj => by have := h.h hj; rw [Nat.zero_add] at this; exact this
  have z7 : ∀ {j}, j < C 0 0 → M a (14 + j) = lkR (C 7 j) := fun hj => by have := h.l hj; rw [Nat.zero_add] at this; exact this
  refine eX7_wink _ ?_
  unfold wk at hq
  have skip : (C 4 0 = 1 ∨ C 9 (C 1 0) = 2 ∨ C 7 (C 1 0) = 99 ∨ C 9 (C 7 (C 1 0)) ≠ 0 ∨ C 7 (C 7 (C 1 0)) ≠ C 1 0) → Q none M L := fun z => hq M (by rw [if_pos z]; exact h) fr1.rf
  simp (disch := omega) only [w_N, w_iconst, w_lcst, w_iload, w_lload, w_aload, m_i_s, m_l_s, m_a_s, w_istore, w_lstore, w_astore, w_iinc, w_iadd, w_isub, w_imul, w_iand, w_ior, w_ixor, w_ishl, w_ishr, w_iushr, w_idiv, w_irem, w_ineg, w_ladd, w_lsub, w_lmul, w_ldiv, w_lrem, w_lcmp, w_i2l, w_l2i, w_i2b, w_i2s, w_dupi, w_dupr, w_popi, w_popr, w_dup2, w_goto, w_cut, w_switch, sw_nil, sw_cons, w_iald, w_bald, w_zald, w_aald, w_iast, w_bast, w_zast, w_ireturn, w_zr0, w_zr1, w_lreturn, w_areturn, w_vreturn, w_cpy, w_mmax, w_mmin, w_sald, w_slen, sc_nil, sc_i, sc_r, sc_l, tl_s, tl_n, ls1, ls2, lk1, hd0, Int.reduceToNat, Nat.reduceAdd, Nat.reduceLeDiff, Nat.reduceMul, true_and, and_true, w_icmp_eq, w_icmp_ne, w_icmp_lt, w_icmp_ge, w_icmp_gt, w_icmp_le, w_if_eq, w_if_ne, w_if_lt, w_if_ge, w_if_gt, w_if_le, tX7_wink_0, kX7_wink_0, tX7_wink_51, kX7_wink_51, tX7_wink_52, kX7_wink_52, tX7_wink_75, kX7_wink_75, tX7_wink_139, kX7_wink_139, tX7_wink_141, kX7_wink_141, tX7_wink_160, kX7_wink_160, tX7_wink_163, kX7_wink_163, tX7_wink_164, kX7_wink_164, tX7_wink_170, kX7_wink_170, hX7_wink_75, ci_1, ci_14, ci_3, ci_46, ci_2, ci_30, ci_22, ci_0, ci_99, ci_38, lg_0, lg_1, lg_2, lg_3, k0, l0, nI_add]
  try simp only [cm_1, cm_1000000, cm_1000001, cm_1000002, cm_1000003, cm_1000010, cm_1000100, lm_1000001, lm_1000002]
  refine exj (by omega) ?_
  rw [e1, nI_add]
  refine exj (by omega) ?_
  rw [z7 hm]
  refine exj (by omega) ?_
  rw [e4]
  simp (disch := omega) only [nI_eq, nI_add]
  refine ⟨fun z => skip (Or.inl z), fun z4 => exj (by omega) ?_⟩
  rw [z9 hm]
  simp (disch := omega) only [nI_eq, nI_add]
  refine ⟨fun z => skip (Or.inr (Or.inl z)), fun zm => ?_⟩
  rw [lkR_lt (by omega)]
  refine ⟨fun z => skip (Or.inr (Or.inr (Or.inl z))), fun zv => ?_⟩
  have hv : C 7 (C 1 0) < C 0 0 := by omega
  have hvm : C 7 (C 1 0) ≠ C 1 0 := by omega
  have hv9 := (hj _ hv).2.2.2.1
  have hv7 := (hj _ hv).2.1
  have hv8 := (hj _ hv).2.2.1
  generalize hvd : C 7 (C 1 0) = v at hv hvm hv9 hv7 hv8 skip hq zv ⊢
  rw [lkR_e zv, nI_add]
  refine exj (by omega) ?_
  rw [z9 hv]
  simp (disch := omega) only [nI_eq, nI_add, ← zn0]
  refine ⟨fun z => skip (Or.inr (Or.inr (Or.inr (Or.inl z)))), fun z0 => exj (by omega) ?_⟩
  rw [z7 hv, lkR_eq (by omega) (by omega)]
  refine ⟨fun z77 => exj (by omega) (exj (by omega) (exj (by omega) ?_)), fun z => skip (Or.inr (Or.inr (Or.inr (Or.inr z))))⟩
  have hh1 := h.a9 hP8 v 1 (by omega)
  have hh := hh1.a10 hP8 v (C 8 v + 1) (by omega)
  have e8 := hh1.s (show v < C 0 0 from hv)
  rw [Nat.zero_add] at hh1 e8
  rw [Nat.zero_add, Nat.zero_add] at hh
  rw [e8, cu_ne (by decide), nI_add]
  have hwh := wf_hit hw hv
  have ef : ∀ k x y, x ≠ 11 → x ≠ 4 → seeK (hit C v) v (C 1 0) k x y = hit C v x y := fun k x y a b => seeK_0 a b k
  have loop : ∀ m k (M1 : Mm), k + m = C 0 0 → rR M1 a 0 (seeK (hit C v) v (C 1 0) k) → fr1 a M M1 → Runs nX7_wink d Q 75 [some (.ref a), some (.int (nI (C 1 0))), some (.int (nI v)), some (.int (nI k))] [] M1 L := by
    intro m
    induction m with
    | zero =>
      intro k M1 hk h1 hf
      have e0 : M1 a 0 = nI (C 0 0) := (h1.1 0 (by decide)).trans (by rw [ef _ _ _ (by decide) (by decide)]; rfl)
      refine wpH_runs oX7_wink 60 75 oX7_wink_75 ?_
      simp (disch := omega) only [w_N, w_iconst, w_lcst, w_iload, w_lload, w_aload, m_i_s, m_l_s, m_a_s, w_istore, w_lstore, w_astore, w_iinc, w_iadd, w_isub, w_imul, w_iand, w_ior, w_ixor, w_ishl, w_ishr, w_iushr, w_idiv, w_irem, w_ineg, w_ladd, w_lsub, w_lmul, w_ldiv, w_lrem, w_lcmp, w_i2l, w_l2i, w_i2b, w_i2s, w_dupi, w_dupr, w_popi, w_popr, w_dup2, w_goto, w_cut, w_switch, sw_nil, sw_cons, w_iald, w_bald, w_zald, w_aald, w_iast, w_bast, w_zast, w_ireturn, w_zr0, w_zr1, w_lreturn, w_areturn, w_vreturn, w_cpy, w_mmax, w_mmin, w_sald, w_slen, sc_nil, sc_i, sc_r, sc_l, tl_s, tl_n, ls1, ls2, lk1, hd0, Int.reduceToNat, Nat.reduceAdd, Nat.reduceLeDiff, Nat.reduceMul, true_and, and_true, w_icmp_eq, w_icmp_ne, w_icmp_lt, w_icmp_ge, w_icmp_gt, w_icmp_le, w_if_eq, w_if_ne, w_if_lt, w_if_ge, w_if_gt, w_if_le, tX7_wink_0, kX7_wink_0, tX7_wink_51, kX7_wink_51, tX7_wink_52, kX7_wink_52, tX7_wink_75, kX7_wink_75, tX7_wink_139, kX7_wink_139, tX7_wink_141, kX7_wink_141, tX7_wink_160, kX7_wink_160, tX7_wink_163, kX7_wink_163, tX7_wink_164, kX7_wink_164, tX7_wink_170, kX7_wink_170, hX7_wink_75, ci_1, ci_14, ci_3, ci_46, ci_2, ci_30, ci_22, ci_0, ci_99, ci_38, lg_0, lg_1, lg_2, lg_3, k0, l0, nI_add]
      try simp only [cm_1, cm_1000000, cm_1000001, cm_1000002, cm_1000003, cm_1000010, cm_1000100, lm_1000001, lm_1000002]
      refine exj (by omega) ?_
      rw [e0]
      simp (disch := omega) only [nI_leI]
      refine ⟨fun _ => hq M1 ?_ hf, fun z => absurd (by omega) z⟩
      rw [if_neg (by omega), show C 0 0 = k by omega]
      exact h1
    | succ m ih =>
      intro k M1 hk h1 hf
      have f0 : seeK (hit C v) v (C 1 0) k 0 0 = C 0 0 := ef _ _ _ (by decide) (by decide)
      have e0 : M1 a 0 = nI (C 0 0) := (h1.1 0 (by decide)).trans (by rw [f0])
      have hk' : k < seeK (hit C v) v (C 1 0) k 0 0 := by rw [f0]; omega
      have hwk := wf_seeK hwh v (C 1 0) k (show k ≤ C 0 0 by omega)
      have b9 := (hwk.2.2.2.2.2 k hk').2.2.2.1
      have b7 := (hwk.2.2.2.2.2 k hk').2.1
      have b11 := (hwk.2.2.2.2.2 k hk').2.2.2.2.2.2.2
      have b2 := hwk.2.2.1
      rw [f0] at b7
      have nx := ih (k + 1)
      have hs1 : ¬ (k ≠ v ∧ k ≠ C 1 0 ∧ hit C v 9 k ≠ 2 ∧ hit C v 7 k = C 1 0) → Runs nX7_wink d Q 75 [some (.ref a), some (.int (nI (C 1 0))), some (.int (nI v)), some (.int (nI (k + 1)))] [] M1 L := fun z => nx M1 (by omega) (by show rR M1 a 0 (if _ then _ else _); rw [if_neg z]; exact h1) hf
      have e9 := h1.h hk'
      have e7 := h1.l hk'
      have e11 := h1.w hk'
      rw [Nat.zero_add] at e9 e7 e11
      refine wpH_runs oX7_wink 60 75 oX7_wink_75 ?_
      simp (disch := omega) only [w_N, w_iconst, w_lcst, w_iload, w_lload, w_aload, m_i_s, m_l_s, m_a_s, w_istore, w_lstore, w_astore, w_iinc, w_iadd, w_isub, w_imul, w_iand, w_ior, w_ixor, w_ishl, w_ishr, w_iushr, w_idiv, w_irem, w_ineg, w_ladd, w_lsub, w_lmul, w_ldiv, w_lrem, w_lcmp, w_i2l, w_l2i, w_i2b, w_i2s, w_dupi, w_dupr, w_popi, w_popr, w_dup2, w_goto, w_cut, w_switch, sw_nil, sw_cons, w_iald, w_bald, w_zald, w_aald, w_iast, w_bast, w_zast, w_ireturn, w_zr0, w_zr1, w_lreturn, w_areturn, w_vreturn, w_cpy, w_mmax, w_mmin, w_sald, w_slen, sc_nil, sc_i, sc_r, sc_l, tl_s, tl_n, ls1, ls2, lk1, hd0, Int.reduceToNat, Nat.reduceAdd, Nat.reduceLeDiff, Nat.reduceMul, true_and, and_true, w_icmp_eq, w_icmp_ne, w_icmp_lt, w_icmp_ge, w_icmp_gt, w_icmp_le, w_if_eq, w_if_ne, w_if_lt, w_if_ge, w_if_gt, w_if_le, tX7_wink_0, kX7_wink_0, tX7_wink_51, kX7_wink_51, tX7_wink_52, kX7_wink_52, tX7_wink_75, kX7_wink_75, tX7_wink_139, kX7_wink_139, tX7_wink_141, kX7_wink_141, tX7_wink_160, kX7_wink_160, tX7_wink_163, kX7_wink_163, tX7_wink_164, kX7_wink_164, tX7_wink_170, kX7_wink_170, hX7_wink_75, ci_1, ci_14, ci_3, ci_46, ci_2, ci_30, ci_22, ci_0, ci_99, ci_38, lg_0, lg_1, lg_2, lg_3, k0, l0, nI_add, nI_eq]
      try simp only [cm_1, cm_1000000, cm_1000001, cm_1000002, cm_1000003, cm_1000010, cm_1000100, lm_1000001, lm_1000002]
      refine exj (by omega) ?_
      rw [e0]
      simp (disch := omega) only [nI_leI]
      refine ⟨fun z => absurd z (by omega), fun _ => ⟨fun z => hs1 (by omega), fun z1 => ⟨fun z => hs1 (by omega), fun z2 => exj (by omega) ?_⟩⟩⟩
      rw [e9]
      simp (disch := omega) only [nI_eq]
      rw [ef _ _ _ (by decide) (by decide)] at b9 b7 e7 e9 ⊢
      refine ⟨fun z => hs1 (by omega), fun z3 => exj (by omega) ?_⟩
      rw [e7, lkR_eq (by omega) (by omega)]
      refine ⟨fun z => hs1 (by omega), fun z4 => exj (by omega) ?_⟩
      generalize hDd : seeK (hit C v) v (C 1 0) k = D at h1 b11 b2 hk' e11 hwk f0
      have fin : ∀ s, s = (if D 11 k < 99 then D 11 k + 1 else 99) → ∀ M2, rR M2 a 0 (cu D 11 k s) → fr1 a M M2 → (nI s < nI (D 2 0) → Runs nX7_wink d Q 75 [some (.ref a), some (.int (nI (C 1 0))), some (.int (nI v)), some (.int (nI (k + 1)))] [] M2 L) ∧ (¬ nI s < nI (D 2 0) → Runs nX7_wink d Q 75 [some (.ref a), some (.int (nI (C 1 0))), some (.int (nI v)), some (.int (nI (k + 1)))] [] (um M2 a 3 (nI 1)) L) := by
        intro s hs M2 g2 gf
        have hs9 : s ≤ 99 := by rw [hs]; split <;> omega
        simp (disch := omega) only [nI_ltI]
        refine ⟨fun q => nx M2 (by omega) ?_ gf, fun q => nx _ (by omega) ?_ gf.um⟩
        · show rR M2 a 0 (if _ then see1 (seeK (hit C v) v (C 1 0) k) k else _)
          rw [if_pos ⟨z2, z1, z3, z4⟩, hDd]
          unfold see1
          rw [← hs, if_neg (by omega)]
          exact g2
        · show rR _ a 0 (if _ then see1 (seeK (hit C v) v (C 1 0) k) k else _)
          rw [if_pos ⟨z2, z1, z3, z4⟩, hDd]
          unfold see1
          rw [← hs, if_pos (by omega)]
          exact g2.sc 4 1 (by decide) (by decide)
      rw [e11]
      simp (disch := omega) only [nI_leI]
      refine ⟨fun q => exj (by omega) (exj (by omega) (exj (by omega) ?_)), fun q => exj (by omega) (exj (by omega) (exj (by omega) (exj (by omega) ?_)))⟩
      · have g := h1.a11 (by rw [f0]; exact hP8) k 99 (by omega)
        rw [Nat.zero_add] at g
        have i1 := g.w (show k < cu D 11 k 99 0 0 from hk')
        have i2 : um M1 a (38 + k) (nI 99) a 2 = nI (D 2 0) := g.1 2 (by decide)
        rw [Nat.zero_add, cu_s] at i1
        rw [i1, i2]
        obtain ⟨j1, j2⟩ := fin 99 (by rw [if_neg (by omega)]) _ g hf.um
        refine ⟨fun y => exj (by omega) (exj (by omega) ?_), fun y => exj (by omega) (j2 y)⟩
        rw [um_same]
        exact j1 y
      · rw [e11, nI_add]
        have g := h1.a11 (by rw [f0]; exact hP8) k (D 11 k + 1) (by omega)
        rw [Nat.zero_add] at g
        have i1 := g.w (show k < cu D 11 k (D 11 k + 1) 0 0 from hk')
        have i2 : um M1 a (38 + k) (nI (D 11 k + 1)) a 2 = nI (D 2 0) := g.1 2 (by decide)
        rw [Nat.zero_add, cu_s] at i1
        rw [i1, i2]
        obtain ⟨j1, j2⟩ := fin (D 11 k + 1) (by rw [if_pos (by omega)]) _ g hf.um
        refine ⟨fun y => exj (by omega) (exj (by omega) ?_), fun y => exj (by omega) (j2 y)⟩
        rw [um_same]
        exact j1 y
  exact loop (C 0 0) 0 _ (by omega) hh (fr1.rf.um.um)
end
