section
variable {d c : Nat} {M : Mm} {L : Ml} {Q : Qt} {C : Ci}
theorem x_isNone (hc : isC c) (h : rC M c C) (hP : C 0 0 ≤ 8) (hq : Q (some (.int (if C 0 0 = 0 then nI 1 else nI 0))) M L) : Good d nX2_isNone [.ref c] M L Q := by
  obtain ⟨k0, -, -⟩ := isC_f c hc
  refine eX2_isNone _ ?_
  have e0 := h.1 0 (by decide)
  simp (disch := omega) only [w_N, w_iconst, w_lcst, w_iload, w_lload, w_aload, m_i_s, m_l_s, m_a_s, w_istore, w_lstore, w_astore, w_iinc, w_iadd, w_isub, w_imul, w_iand, w_ior, w_ixor, w_ishl, w_ishr, w_iushr, w_idiv, w_irem, w_ineg, w_ladd, w_lsub, w_lmul, w_ldiv, w_lrem, w_lcmp, w_i2l, w_l2i, w_i2b, w_i2s, w_dupi, w_dupr, w_popi, w_popr, w_dup2, w_goto, w_cut, w_switch, sw_nil, sw_cons, w_iald, w_bald, w_zald, w_aald, w_iast, w_bast, w_zast, w_ireturn, w_zr0, w_zr1, w_lreturn, w_areturn, w_vreturn, w_cpy, w_mmax, w_mmin, w_sald, w_slen, sc_nil, sc_i, sc_r, sc_l, tl_s, tl_n, ls1, ls2, lk1, hd0, Int.reduceToNat, Nat.reduceAdd, Nat.reduceLeDiff, Nat.reduceMul, true_and, and_true, w_icmp_eq, w_icmp_ne, w_icmp_lt, w_icmp_ge, w_icmp_gt, w_icmp_le, w_if_eq, w_if_ne, w_if_lt, w_if_ge, w_if_gt, w_if_le, tX2_isNone_0, kX2_isNone_0, tX2_isNone_11, kX2_isNone_11, tX2_isNone_12, kX2_isNone_12, w_g64, ci_1, ci_0, lg_0, k0, e0, ← zn0, nI_eq]
  refine ⟨fun z => ?_, fun z => ?_⟩
  · rw [if_neg z] at hq; exact hq
  · rw [if_pos z] at hq; exact hq
theorem x_has_t (hc : isC c) (h : rC M c C) (hP : C 0 0 ≤ 8) {j : Nat} (hj : j < C 0 0) (hq : Q (some (.int (nI 1))) M L) : Good d nX2_has [.ref c, .int (nI j)] M L Q := by
  obtain ⟨k0, -, -⟩ := isC_f c hc
  refine eX2_has _ _ ?_
  have e0 := h.1 0 (by decide)
  simp (disch := omega) only [w_N, w_iconst, w_lcst, w_iload, w_lload, w_aload, m_i_s, m_l_s, m_a_s, w_istore, w_lstore, w_astore, w_iinc, w_iadd, w_isub, w_imul, w_iand, w_ior, w_ixor, w_ishl, w_ishr, w_iushr, w_idiv, w_irem, w_ineg, w_ladd, w_lsub, w_lmul, w_ldiv, w_lrem, w_lcmp, w_i2l, w_l2i, w_i2b, w_i2s, w_dupi, w_dupr, w_popi, w_popr, w_dup2, w_goto, w_cut, w_switch, sw_nil, sw_cons, w_iald, w_bald, w_zald, w_aald, w_iast, w_bast, w_zast, w_ireturn, w_zr0, w_zr1, w_lreturn, w_areturn, w_vreturn, w_cpy, w_mmax, w_mmin, w_sald, w_slen, sc_nil, sc_i, sc_r, sc_l, tl_s, tl_n, ls1, ls2, lk1, hd0, Int.reduceToNat, Nat.reduceAdd, Nat.reduceLeDiff, Nat.reduceMul, true_and, and_true, w_icmp_eq, w_icmp_ne, w_icmp_lt, w_icmp_ge, w_icmp_gt, w_icmp_le, w_if_eq, w_if_ne, w_if_lt, w_if_ge, w_if_gt, w_if_le, tX2_has_0, kX2_has_0, tX2_has_16, kX2_has_16, tX2_has_17, kX2_has_17, w_g64, ci_1, ci_0, lg_0, lg_1, k0, e0, ← zn0, nI_eq, nI_ltI, nI_leI]
  exact ⟨fun z => absurd z (by omega), fun _ => ⟨fun z => absurd z (by omega), fun _ => hq⟩⟩
theorem x_has_f (hc : isC c) (h : rC M c C) {p : Int32} (hp : p < 0 ∨ nI (C 0 0) ≤ p) (hq : Q (some (.int (nI 0))) M L) : Good d nX2_has [.ref c, .int p] M L Q := by
  obtain ⟨k0, -, -⟩ := isC_f c hc
  refine eX2_has _ _ ?_
  have e0 := h.1 0 (by decide)
  simp only [w_N, w_iconst, w_lcst, w_iload, w_lload, w_aload, m_i_s, m_l_s, m_a_s, w_istore, w_lstore, w_astore, w_iinc, w_iadd, w_isub, w_imul, w_iand, w_ior, w_ixor, w_ishl, w_ishr, w_iushr, w_idiv, w_irem, w_ineg, w_ladd, w_lsub, w_lmul, w_ldiv, w_lrem, w_lcmp, w_i2l, w_l2i, w_i2b, w_i2s, w_dupi, w_dupr, w_popi, w_popr, w_dup2, w_goto, w_cut, w_switch, sw_nil, sw_cons, w_iald, w_bald, w_zald, w_aald, w_iast, w_bast, w_zast, w_ireturn, w_zr0, w_zr1, w_lreturn, w_areturn, w_vreturn, w_cpy, w_mmax, w_mmin, w_sald, w_slen, sc_nil, sc_i, sc_r, sc_l, tl_s, tl_n, ls1, ls2, lk1, hd0, Int.reduceToNat, Nat.reduceAdd, Nat.reduceLeDiff, Nat.reduceMul, true_and, and_true, w_icmp_eq, w_icmp_ne, w_icmp_lt, w_icmp_ge, w_icmp_gt, w_icmp_le, w_if_eq, w_if_ne, w_if_lt, w_if_ge, w_if_gt, w_if_le, tX2_has_0, kX2_has_0, tX2_has_16, kX2_has_16, tX2_has_17, kX2_has_17, w_g64, ci_1, ci_0, lg_0, lg_1, k0, e0]
  exact ⟨fun _ => hq, fun z => ⟨fun _ => hq, fun y => by rcases hp with q | q; exact absurd q z; exact absurd q y⟩⟩
theorem x_isDead (hc : isC c) (h : rC M c C) (hw : wf C) {j : Nat} (hj : j < C 0 0) (hq : Q (some (.int (if C 9 j = 2 then nI 1 else nI 0))) M L) : Good (d + 1) nX2_isDead [.ref c, .int (nI j)] M L Q := by
  obtain ⟨k0, k1, l1⟩ := isC_f c hc
  have hw9 := (hw.2.2.2.2.2 j hj).2.2.2.1
  have hP := hw.1.2
  refine eX2_isDead _ _ ?_
  simp only [w_N, w_iconst, w_lcst, w_iload, w_lload, w_aload, m_i_s, m_l_s, m_a_s, w_istore, w_lstore, w_astore, w_iinc, w_iadd, w_isub, w_imul, w_iand, w_ior, w_ixor, w_ishl, w_ishr, w_iushr, w_idiv, w_irem, w_ineg, w_ladd, w_lsub, w_lmul, w_ldiv, w_lrem, w_lcmp, w_i2l, w_l2i, w_i2b, w_i2s, w_dupi, w_dupr, w_popi, w_popr, w_dup2, w_goto, w_cut, w_switch, sw_nil, sw_cons, w_iald, w_bald, w_zald, w_aald, w_iast, w_bast, w_zast, w_ireturn, w_zr0, w_zr1, w_lreturn, w_areturn, w_vreturn, w_cpy, w_mmax, w_mmin, w_sald, w_slen, sc_nil, sc_i, sc_r, sc_l, tl_s, tl_n, ls1, ls2, lk1, hd0, Int.reduceToNat, Nat.reduceAdd, Nat.reduceLeDiff, Nat.reduceMul, true_and, and_true, w_icmp_eq, w_icmp_ne, w_icmp_lt, w_icmp_ge, w_icmp_gt, w_icmp_le, w_if_eq, w_if_ne, w_if_lt, w_if_ge, w_if_gt, w_if_le, tX2_isDead_0, kX2_isDead_0, tX2_isDead_22, kX2_isDead_22, tX2_isDead_23, kX2_isDead_23, wc_X2_has, w_g73, ci_2, ci_1, ci_0, lg_0, lg_1, k0]
  refine callOk (Nat.lt_succ_self d) (x_has_t hc h hw.1.2 hj ?_)
  simp (disch := omega) only [w_N, w_iconst, w_lcst, w_iload, w_lload, w_aload, m_i_s, m_l_s, m_a_s, w_istore, w_lstore, w_astore, w_iinc, w_iadd, w_isub, w_imul, w_iand, w_ior, w_ixor, w_ishl, w_ishr, w_iushr, w_idiv, w_irem, w_ineg, w_ladd, w_lsub, w_lmul, w_ldiv, w_lrem, w_lcmp, w_i2l, w_l2i, w_i2b, w_i2s, w_dupi, w_dupr, w_popi, w_popr, w_dup2, w_goto, w_cut, w_switch, sw_nil, sw_cons, w_iald, w_bald, w_zald, w_aald, w_iast, w_bast, w_zast, w_ireturn, w_zr0, w_zr1, w_lreturn, w_areturn, w_vreturn, w_cpy, w_mmax, w_mmin, w_sald, w_slen, sc_nil, sc_i, sc_r, sc_l, tl_s, tl_n, ls1, ls2, lk1, hd0, Int.reduceToNat, Nat.reduceAdd, Nat.reduceLeDiff, Nat.reduceMul, true_and, and_true, w_icmp_eq, w_icmp_ne, w_icmp_lt, w_icmp_ge, w_icmp_gt, w_icmp_le, w_if_eq, w_if_ne, w_if_lt, w_if_ge, w_if_gt, w_if_le, tX2_isDead_0, kX2_isDead_0, tX2_isDead_22, kX2_isDead_22, tX2_isDead_23, kX2_isDead_23, wc_X2_has, w_g73, ci_2, ci_1, ci_0, lg_0, lg_1, k0, k1, l1, ← zn0, nI_eq]
  refine ⟨fun z => absurd z (by decide), fun _ => exj (by omega) ?_⟩
  rw [h.h hj]
  simp (disch := omega) only [nI_eq]
  refine ⟨fun z => ?_, fun z => ?_⟩
  · rw [if_neg z] at hq; exact hq
  · rw [if_pos z] at hq; exact hq
theorem x_above (hc : isC c) (h : rC M c C) (hP : C 0 0 ≤ 8) {s : Nat} (hs : s < 100) (hq : Q (some (.int (nI (abv (C 0 0) s)))) M L) : Good d nX2_above [.ref c, .int (nI s)] M L Q := by
  obtain ⟨k0, -, -⟩ := isC_f c hc
  refine eX2_above _ _ ?_
  have e0 := h.1 0 (by decide)
  simp (disch := omega) only [w_N, w_iconst, w_lcst, w_iload, w_lload, w_aload, m_i_s, m_l_s, m_a_s, w_istore, w_lstore, w_astore, w_iinc, w_iadd, w_isub, w_imul, w_iand, w_ior, w_ixor, w_ishl, w_ishr, w_iushr, w_idiv, w_irem, w_ineg, w_ladd, w_lsub, w_lmul, w_ldiv, w_lrem, w_lcmp, w_i2l, w_l2i, w_i2b, w_i2s, w_dupi, w_dupr, w_popi, w_popr, w_dup2, w_goto, w_cut, w_switch, sw_nil, sw_cons, w_iald, w_bald, w_zald, w_aald, w_iast, w_bast, w_zast, w_ireturn, w_zr0, w_zr1, w_lreturn, w_areturn, w_vreturn, w_cpy, w_mmax, w_mmin, w_sald, w_slen, sc_nil, sc_i, sc_r, sc_l, tl_s, tl_n, ls1, ls2, lk1, hd0, Int.reduceToNat, Nat.reduceAdd, Nat.reduceLeDiff, Nat.reduceMul, true_and, and_true, w_icmp_eq, w_icmp_ne, w_icmp_lt, w_icmp_ge, w_icmp_gt, w_icmp_le, w_if_eq, w_if_ne, w_if_lt, w_if_ge, w_if_gt, w_if_le, tX2_above_0, kX2_above_0, tX2_above_16, kX2_above_16, tX2_above_17, kX2_above_17, ci_1, w_g64, ci_0, lg_0, lg_1, k0, e0, nI_add, nI_leI]
  unfold abv at hq
  refine ⟨fun z => ?_, fun z => ?_⟩
  · rw [if_neg (by omega)] at hq; exact hq
  · rw [if_pos (by omega)] at hq; exact hq
theorem x_below (hc : isC c) (h : rC M c C) (hP : 1 ≤ C 0 0 ∧ C 0 0 ≤ 8) {s : Nat} (hs : s < 100) (hq : Q (some (.int (nI (blw (C 0 0) s)))) M L) : Good d nX2_below [.ref c, .int (nI s)] M L Q := by
  obtain ⟨k0, -, -⟩ := isC_f c hc
  refine eX2_below _ _ ?_
  have e0 := h.1 0 (by decide)
  simp (disch := omega) only [w_N, w_iconst, w_lcst, w_iload, w_lload, w_aload, m_i_s, m_l_s, m_a_s, w_istore, w_lstore, w_astore, w_iinc, w_iadd, w_isub, w_imul, w_iand, w_ior, w_ixor, w_ishl, w_ishr, w_iushr, w_idiv, w_irem, w_ineg, w_ladd, w_lsub, w_lmul, w_ldiv, w_lrem, w_lcmp, w_i2l, w_l2i, w_i2b, w_i2s, w_dupi, w_dupr, w_popi, w_popr, w_dup2, w_goto, w_cut, w_switch, sw_nil, sw_cons, w_iald, w_bald, w_zald, w_aald, w_iast, w_bast, w_zast, w_ireturn, w_zr0, w_zr1, w_lreturn, w_areturn, w_vreturn, w_cpy, w_mmax, w_mmin, w_sald, w_slen, sc_nil, sc_i, sc_r, sc_l, tl_s, tl_n, ls1, ls2, lk1, hd0, Int.reduceToNat, Nat.reduceAdd, Nat.reduceLeDiff, Nat.reduceMul, true_and, and_true, w_icmp_eq, w_icmp_ne, w_icmp_lt, w_icmp_ge, w_icmp_gt, w_icmp_le, w_if_eq, w_if_ne, w_if_lt, w_if_ge, w_if_gt, w_if_le, tX2_below_0, kX2_below_0, tX2_below_10, kX2_below_10, tX2_below_16, kX2_below_16, ci_1, w_g64, lg_0, lg_1, k0, e0, ← zn0, nI_leI, pk_sub]
  unfold blw at hq
  refine ⟨fun z => ?_, fun z => ?_⟩
  · rw [if_neg (by omega)] at hq; exact hq
  · rw [if_pos (by omega), ← pk_sub (by omega)] at hq; exact hq
theorem x_bitsOf (hc : isC c) (h : rC M c C) (hP : C 0 0 ≤ 8) (h9 : ∀ j, j < C 0 0 → C 9 j ≤ 2) {s : Nat} (hs : s < 100) (hq : Q (some (.int (nI (bts C s)))) M L) : Good d nX2_bitsOf [.ref c, .int (nI s)] M L Q := by
  obtain ⟨k0, k1, l1⟩ := isC_f c hc
  have e0 := h.1 0 (by decide)
  refine eX2_bitsOf _ _ ?_
  simp only [w_N, w_iconst, w_lcst, w_iload, w_lload, w_aload, m_i_s, m_l_s, m_a_s, w_istore, w_lstore, w_astore, w_iinc, w_iadd, w_isub, w_imul, w_iand, w_ior, w_ixor, w_ishl, w_ishr, w_iushr, w_idiv, w_irem, w_ineg, w_ladd, w_lsub, w_lmul, w_ldiv, w_lrem, w_lcmp, w_i2l, w_l2i, w_i2b, w_i2s, w_dupi, w_dupr, w_popi, w_popr, w_dup2, w_goto, w_cut, w_switch, sw_nil, sw_cons, w_iald, w_bald, w_zald, w_aald, w_iast, w_bast, w_zast, w_ireturn, w_zr0, w_zr1, w_lreturn, w_areturn, w_vreturn, w_cpy, w_mmax, w_mmin, w_sald, w_slen, sc_nil, sc_i, sc_r, sc_l, tl_s, tl_n, ls1, ls2, lk1, hd0, Int.reduceToNat, Nat.reduceAdd, Nat.reduceLeDiff, Nat.reduceMul, true_and, and_true, w_icmp_eq, w_icmp_ne, w_icmp_lt, w_icmp_ge, w_icmp_gt, w_icmp_le, w_if_eq, w_if_ne, w_if_lt, w_if_ge, w_if_gt, w_if_le, tX2_bitsOf_0, kX2_bitsOf_0, tX2_bitsOf_4, kX2_bitsOf_4, tX2_bitsOf_28, kX2_bitsOf_28, tX2_bitsOf_34, kX2_bitsOf_34, hX2_bitsOf_4, ci_0, ci_1, w_g64, w_g73, lg_0, lg_1, lg_2, lg_3]
  have loop : ∀ m k, k + m = C 0 0 → Runs nX2_bitsOf d Q 4 [some (.ref c), some (.int (nI s)), some (.int (nI (btK (fun j => C 9 j = s) k))), some (.int (nI k))] [] M L := by
    intro m
    induction m with
    | zero =>
      intro k hk
      refine wpH_runs oX2_bitsOf 60 4 oX2_bitsOf_4 ?_
      simp (disch := omega) only [w_N, w_iconst, w_lcst, w_iload, w_lload, w_aload, m_i_s, m_l_s, m_a_s, w_istore, w_lstore, w_astore, w_iinc, w_iadd, w_isub, w_imul, w_iand, w_ior, w_ixor, w_ishl, w_ishr, w_iushr, w_idiv, w_irem, w_ineg, w_ladd, w_lsub, w_lmul, w_ldiv, w_lrem, w_lcmp, w_i2l, w_l2i, w_i2b, w_i2s, w_dupi, w_dupr, w_popi, w_popr, w_dup2, w_goto, w_cut, w_switch, sw_nil, sw_cons, w_iald, w_bald, w_zald, w_aald, w_iast, w_bast, w_zast, w_ireturn, w_zr0, w_zr1, w_lreturn, w_areturn, w_vreturn, w_cpy, w_mmax, w_mmin, w_sald, w_slen, sc_nil, sc_i, sc_r, sc_l, tl_s, tl_n, ls1, ls2, lk1, hd0, Int.reduceToNat, Nat.reduceAdd, Nat.reduceLeDiff, Nat.reduceMul, true_and, and_true, w_icmp_eq, w_icmp_ne, w_icmp_lt, w_icmp_ge, w_icmp_gt, w_icmp_le, w_if_eq, w_if_ne, w_if_lt, w_if_ge, w_if_gt, w_if_le, tX2_bitsOf_0, kX2_bitsOf_0, tX2_bitsOf_4, kX2_bitsOf_4, tX2_bitsOf_28, kX2_bitsOf_28, tX2_bitsOf_34, kX2_bitsOf_34, hX2_bitsOf_4, ci_0, ci_1, w_g64, w_g73, lg_0, lg_1, lg_2, lg_3, k0, e0, nI_leI]
      refine ⟨fun _ => ?_, fun z => absurd (by omega) z⟩
      unfold bts at hq
      rw [show C 0 0 = k by omega] at hq
      exact hq
    | succ m ih =>
      intro k hk
      refine wpH_runs oX2_bitsOf 60 4 oX2_bitsOf_4 ?_
      simp (disch := omega) only [w_N, w_iconst, w_lcst, w_iload, w_lload, w_aload, m_i_s, m_l_s, m_a_s, w_istore, w_lstore, w_astore, w_iinc, w_iadd, w_isub, w_imul, w_iand, w_ior, w_ixor, w_ishl, w_ishr, w_iushr, w_idiv, w_irem, w_ineg, w_ladd, w_lsub, w_lmul, w_ldiv, w_lrem, w_lcmp, w_i2l, w_l2i, w_i2b, w_i2s, w_dupi, w_dupr, w_popi, w_popr, w_dup2, w_goto, w_cut, w_switch, sw_nil, sw_cons, w_iald, w_bald, w_zald, w_aald, w_iast, w_bast, w_zast, w_ireturn, w_zr0, w_zr1, w_lreturn, w_areturn, w_vreturn, w_cpy, w_mmax, w_mmin, w_sald, w_slen, sc_nil, sc_i, sc_r, sc_l, tl_s, tl_n, ls1, ls2, lk1, hd0, Int.reduceToNat, Nat.reduceAdd, Nat.reduceLeDiff, Nat.reduceMul, true_and, and_true, w_icmp_eq, w_icmp_ne, w_icmp_lt, w_icmp_ge, w_icmp_gt, w_icmp_le, w_if_eq, w_if_ne, w_if_lt, w_if_ge, w_if_gt, w_if_le, tX2_bitsOf_0, kX2_bitsOf_0, tX2_bitsOf_4, kX2_bitsOf_4, tX2_bitsOf_28, kX2_bitsOf_28, tX2_bitsOf_34, kX2_bitsOf_34, hX2_bitsOf_4, ci_0, ci_1, w_g64, w_g73, lg_0, lg_1, lg_2, lg_3, k0, k1, l1, e0, nI_leI]
      refine ⟨fun z => absurd z (by omega), fun _ => exj (by omega) ?_⟩
      have := h9 k (by omega)
      rw [h.h (by omega), nI_add]
      simp (disch := omega) only [nI_eq]
      refine ⟨fun z => ?_, fun z => ?_⟩
      · rw [bt_no (fun j => C 9 j = s) z]
        exact ih (k + 1) (by omega)
      · rw [bt_or (fun j => C 9 j = s) (by omega) z]
        exact ih (k + 1) (by omega)
  exact loop (C 0 0) 0 (by omega)
theorem x_lookersAt (hc : isC c) (h : rC M c C) (hP : C 0 0 ≤ 8) (h7 : ∀ j, j < C 0 0 → C 7 j < 100) {s : Nat} (hs : s < 99) (hq : Q (some (.int (nI (lkr C s)))) M L) : Good d nX2_lookersAt [.ref c, .int (nI s)] M L Q := by
  obtain ⟨k0, k1, l1⟩ := isC_f c hc
  have e0 := h.1 0 (by decide)
  refine eX2_lookersAt _ _ ?_
  simp only [w_N, w_iconst, w_lcst, w_iload, w_lload, w_aload, m_i_s, m_l_s, m_a_s, w_istore, w_lstore, w_astore, w_iinc, w_iadd, w_isub, w_imul, w_iand, w_ior, w_ixor, w_ishl, w_ishr, w_iushr, w_idiv, w_irem, w_ineg, w_ladd, w_lsub, w_lmul, w_ldiv, w_lrem, w_lcmp, w_i2l, w_l2i, w_i2b, w_i2s, w_dupi, w_dupr, w_popi, w_popr, w_dup2, w_goto, w_cut, w_switch, sw_nil, sw_cons, w_iald, w_bald, w_zald, w_aald, w_iast, w_bast, w_zast, w_ireturn, w_zr0, w_zr1, w_lreturn, w_areturn, w_vreturn, w_cpy, w_mmax, w_mmin, w_sald, w_slen, sc_nil, sc_i, sc_r, sc_l, tl_s, tl_n, ls1, ls2, lk1, hd0, Int.reduceToNat, Nat.reduceAdd, Nat.reduceLeDiff, Nat.reduceMul, true_and, and_true, w_icmp_eq, w_icmp_ne, w_icmp_lt, w_icmp_ge, w_icmp_gt, w_icmp_le, w_if_eq, w_if_ne, w_if_lt, w_if_ge, w_if_gt, w_if_le, tX2_lookersAt_0, kX2_lookersAt_0, tX2_lookersAt_4, kX2_lookersAt_4, tX2_lookersAt_28, kX2_lookersAt_28, tX2_lookersAt_34, kX2_lookersAt_34, hX2_lookersAt_4, ci_0, ci_1, w_g64, w_g71, lg_0, lg_1, lg_2, lg_3]
  have loop : ∀ m k, k + m = C 0 0 → Runs nX2_lookersAt d Q 4 [some (.ref c), some (.int (nI s)), some (.int (nI (btK (fun j => C 7 j = s) k))), some (.int (nI k))] [] M L := by
    intro m
    induction m with
    | zero =>
      intro k hk
      refine wpH_runs oX2_lookersAt 60 4 oX2_lookersAt_4 ?_
      simp (disch := omega) only [w_N, w_iconst, w_lcst, w_iload, w_lload, w_aload, m_i_s, m_l_s, m_a_s, w_istore, w_lstore, w_astore, w_iinc, w_iadd, w_isub, w_imul, w_iand, w_ior, w_ixor, w_ishl, w_ishr, w_iushr, w_idiv, w_irem, w_ineg, w_ladd, w_lsub, w_lmul, w_ldiv, w_lrem, w_lcmp, w_i2l, w_l2i, w_i2b, w_i2s, w_dupi, w_dupr, w_popi, w_popr, w_dup2, w_goto, w_cut, w_switch, sw_nil, sw_cons, w_iald, w_bald, w_zald, w_aald, w_iast, w_bast, w_zast, w_ireturn, w_zr0, w_zr1, w_lreturn, w_areturn, w_vreturn, w_cpy, w_mmax, w_mmin, w_sald, w_slen, sc_nil, sc_i, sc_r, sc_l, tl_s, tl_n, ls1, ls2, lk1, hd0, Int.reduceToNat, Nat.reduceAdd, Nat.reduceLeDiff, Nat.reduceMul, true_and, and_true, w_icmp_eq, w_icmp_ne, w_icmp_lt, w_icmp_ge, w_icmp_gt, w_icmp_le, w_if_eq, w_if_ne, w_if_lt, w_if_ge, w_if_gt, w_if_le, tX2_lookersAt_0, kX2_lookersAt_0, tX2_lookersAt_4, kX2_lookersAt_4, tX2_lookersAt_28, kX2_lookersAt_28, tX2_lookersAt_34, kX2_lookersAt_34, hX2_lookersAt_4, ci_0, ci_1, w_g64, w_g71, lg_0, lg_1, lg_2, lg_3, k0, e0, nI_leI]
      refine ⟨fun _ => ?_, fun z => absurd (by omega) z⟩
      unfold lkr at hq
      rw [show C 0 0 = k by omega] at hq
      exact hq
    | succ m ih =>
      intro k hk
      refine wpH_runs oX2_lookersAt 60 4 oX2_lookersAt_4 ?_
      simp (disch := omega) only [w_N, w_iconst, w_lcst, w_iload, w_lload, w_aload, m_i_s, m_l_s, m_a_s, w_istore, w_lstore, w_astore, w_iinc, w_iadd, w_isub, w_imul, w_iand, w_ior, w_ixor, w_ishl, w_ishr, w_iushr, w_idiv, w_irem, w_ineg, w_ladd, w_lsub, w_lmul, w_ldiv, w_lrem, w_lcmp, w_i2l, w_l2i, w_i2b, w_i2s, w_dupi, w_dupr, w_popi, w_popr, w_dup2, w_goto, w_cut, w_switch, sw_nil, sw_cons, w_iald, w_bald, w_zald, w_aald, w_iast, w_bast, w_zast, w_ireturn, w_zr0, w_zr1, w_lreturn, w_areturn, w_vreturn, w_cpy, w_mmax, w_mmin, w_sald, w_slen, sc_nil, sc_i, sc_r, sc_l, tl_s, tl_n, ls1, ls2, lk1, hd0, Int.reduceToNat, Nat.reduceAdd, Nat.reduceLeDiff, Nat.reduceMul, true_and, and_true, w_icmp_eq, w_icmp_ne, w_icmp_lt, w_icmp_ge, w_icmp_gt, w_icmp_le, w_if_eq, w_if_ne, w_if_lt, w_if_ge, w_if_gt, w_if_le, tX2_lookersAt_0, kX2_lookersAt_0, tX2_lookersAt_4, kX2_lookersAt_4, tX2_lookersAt_28, kX2_lookersAt_28, tX2_lookersAt_34, kX2_lookersAt_34, hX2_lookersAt_4, ci_0, ci_1, w_g64, w_g71, lg_0, lg_1, lg_2, lg_3, k0, k1, l1, e0, nI_leI]
      refine ⟨fun z => absurd z (by omega), fun _ => exj (by omega) ?_⟩
      have := h7 k (by omega)
      rw [h.l (by omega), nI_add, lkC_eq this hs]
      refine ⟨fun z => ?_, fun z => ?_⟩
      · rw [bt_no (fun j => C 7 j = s) z]
        exact ih (k + 1) (by omega)
      · rw [bt_or (fun j => C 7 j = s) (by omega) z]
        exact ih (k + 1) (by omega)
  exact loop (C 0 0) 0 (by omega)
theorem x_howManyDead (hc : isC c) (h : rC M c C) (hP : C 0 0 ≤ 8) (h9 : ∀ j, j < C 0 0 → C 9 j ≤ 2) (hq : Q (some (.int (nI (ded C)))) M L) : Good d nX2_howManyDead [.ref c] M L Q := by
  obtain ⟨k0, k1, l1⟩ := isC_f c hc
  have e0 := h.1 0 (by decide)
  refine eX2_howManyDead _ ?_
  simp only [w_N, w_iconst, w_lcst, w_iload, w_lload, w_aload, m_i_s, m_l_s, m_a_s, w_istore, w_lstore, w_astore, w_iinc, w_iadd, w_isub, w_imul, w_iand, w_ior, w_ixor, w_ishl, w_ishr, w_iushr, w_idiv, w_irem, w_ineg, w_ladd, w_lsub, w_lmul, w_ldiv, w_lrem, w_lcmp, w_i2l, w_l2i, w_i2b, w_i2s, w_dupi, w_dupr, w_popi, w_popr, w_dup2, w_goto, w_cut, w_switch, sw_nil, sw_cons, w_iald, w_bald, w_zald, w_aald, w_iast, w_bast, w_zast, w_ireturn, w_zr0, w_zr1, w_lreturn, w_areturn, w_vreturn, w_cpy, w_mmax, w_mmin, w_sald, w_slen, sc_nil, sc_i, sc_r, sc_l, tl_s, tl_n, ls1, ls2, lk1, hd0, Int.reduceToNat, Nat.reduceAdd, Nat.reduceLeDiff, Nat.reduceMul, true_and, and_true, w_icmp_eq, w_icmp_ne, w_icmp_lt, w_icmp_ge, w_icmp_gt, w_icmp_le, w_if_eq, w_if_ne, w_if_lt, w_if_ge, w_if_gt, w_if_le, tX2_howManyDead_0, kX2_howManyDead_0, tX2_howManyDead_4, kX2_howManyDead_4, tX2_howManyDead_25, kX2_howManyDead_25, tX2_howManyDead_31, kX2_howManyDead_31, hX2_howManyDead_4, ci_0, ci_1, w_g64, w_g73, ci_2, lg_0, lg_1, lg_2]
  have loop : ∀ m k, k + m = C 0 0 → Runs nX2_howManyDead d Q 4 [some (.ref c), some (.int (nI (ctK (fun j => C 9 j = 2) k))), some (.int (nI k))] [] M L := by
    intro m
    induction m with
    | zero =>
      intro k hk
      refine wpH_runs oX2_howManyDead 60 4 oX2_howManyDead_4 ?_
      simp (disch := omega) only [w_N, w_iconst, w_lcst, w_iload, w_lload, w_aload, m_i_s, m_l_s, m_a_s, w_istore, w_lstore, w_astore, w_iinc, w_iadd, w_isub, w_imul, w_iand, w_ior, w_ixor, w_ishl, w_ishr, w_iushr, w_idiv, w_irem, w_ineg, w_ladd, w_lsub, w_lmul, w_ldiv, w_lrem, w_lcmp, w_i2l, w_l2i, w_i2b, w_i2s, w_dupi, w_dupr, w_popi, w_popr, w_dup2, w_goto, w_cut, w_switch, sw_nil, sw_cons, w_iald, w_bald, w_zald, w_aald, w_iast, w_bast, w_zast, w_ireturn, w_zr0, w_zr1, w_lreturn, w_areturn, w_vreturn, w_cpy, w_mmax, w_mmin, w_sald, w_slen, sc_nil, sc_i, sc_r, sc_l, tl_s, tl_n, ls1, ls2, lk1, hd0, Int.reduceToNat, Nat.reduceAdd, Nat.reduceLeDiff, Nat.reduceMul, true_and, and_true, w_icmp_eq, w_icmp_ne, w_icmp_lt, w_icmp_ge, w_icmp_gt, w_icmp_le, w_if_eq, w_if_ne, w_if_lt, w_if_ge, w_if_gt, w_if_le, tX2_howManyDead_0, kX2_howManyDead_0, tX2_howManyDead_4, kX2_howManyDead_4, tX2_howManyDead_25, kX2_howManyDead_25, tX2_howManyDead_31, kX2_howManyDead_31, hX2_howManyDead_4, ci_0, ci_1, w_g64, w_g73, ci_2, lg_0, lg_1, lg_2, k0, e0, nI_leI]
      refine ⟨fun _ => ?_, fun z => absurd (by omega) z⟩
      unfold ded at hq
      rw [show C 0 0 = k by omega] at hq
      exact hq
    | succ m ih =>
      intro k hk
      refine wpH_runs oX2_howManyDead 60 4 oX2_howManyDead_4 ?_
      simp (disch := omega) only [w_N, w_iconst, w_lcst, w_iload, w_lload, w_aload, m_i_s, m_l_s, m_a_s, w_istore, w_lstore, w_astore, w_iinc, w_iadd, w_isub, w_imul, w_iand, w_ior, w_ixor, w_ishl, w_ishr, w_iushr, w_idiv, w_irem, w_ineg, w_ladd, w_lsub, w_lmul, w_ldiv, w_lrem, w_lcmp, w_i2l, w_l2i, w_i2b, w_i2s, w_dupi, w_dupr, w_popi, w_popr, w_dup2, w_goto, w_cut, w_switch, sw_nil, sw_cons, w_iald, w_bald, w_zald, w_aald, w_iast, w_bast, w_zast, w_ireturn, w_zr0, w_zr1, w_lreturn, w_areturn, w_vreturn, w_cpy, w_mmax, w_mmin, w_sald, w_slen, sc_nil, sc_i, sc_r, sc_l, tl_s, tl_n, ls1, ls2, lk1, hd0, Int.reduceToNat, Nat.reduceAdd, Nat.reduceLeDiff, Nat.reduceMul, true_and, and_true, w_icmp_eq, w_icmp_ne, w_icmp_lt, w_icmp_ge, w_icmp_gt, w_icmp_le, w_if_eq, w_if_ne, w_if_lt, w_if_ge, w_if_gt, w_if_le, tX2_howManyDead_0, kX2_howManyDead_0, tX2_howManyDead_4, kX2_howManyDead_4, tX2_howManyDead_25, kX2_howManyDead_25, tX2_howManyDead_31, kX2_howManyDead_31, hX2_howManyDead_4, ci_0, ci_1, w_g64, w_g73, ci_2, lg_0, lg_1, lg_2, k0, k1, l1, e0, nI_leI]
      refine ⟨fun z => absurd z (by omega), fun _ => exj (by omega) ?_⟩
      have := h9 k (by omega)
      rw [h.h (by omega), nI_add]
      simp (disch := omega) only [nI_eq, nI_add]
      have hi := ih (k + 1) (by omega)
      unfold ctK at hi
      refine ⟨fun z => ?_, fun z => ?_⟩
      · rw [if_neg z] at hi; exact hi
      · rw [if_pos z] at hi; exact hi
  exact loop (C 0 0) 0 (by omega)
theorem x_allSaw (hc : isC c) (h : rC M c C) (hP : C 0 0 ≤ 8) (hq : Q (some (.int (nI (alS C)))) M L) : Good d nX2_allSaw [.ref c] M L Q := by
  obtain ⟨k0, k1, l1⟩ := isC_f c hc
  have e0 := h.1 0 (by decide)
  refine eX2_allSaw _ ?_
  simp only [w_N, w_iconst, w_lcst, w_iload, w_lload, w_aload, m_i_s, m_l_s, m_a_s, w_istore, w_lstore, w_astore, w_iinc, w_iadd, w_isub, w_imul, w_iand, w_ior, w_ixor, w_ishl, w_ishr, w_iushr, w_idiv, w_irem, w_ineg, w_ladd, w_lsub, w_lmul, w_ldiv, w_lrem, w_lcmp, w_i2l, w_l2i, w_i2b, w_i2s, w_dupi, w_dupr, w_popi, w_popr, w_dup2, w_goto, w_cut, w_switch, sw_nil, sw_cons, w_iald, w_bald, w_zald, w_aald, w_iast, w_bast, w_zast, w_ireturn, w_zr0, w_zr1, w_lreturn, w_areturn, w_vreturn, w_cpy, w_mmax, w_mmin, w_sald, w_slen, sc_nil, sc_i, sc_r, sc_l, tl_s, tl_n, ls1, ls2, lk1, hd0, Int.reduceToNat, Nat.reduceAdd, Nat.reduceLeDiff, Nat.reduceMul, true_and, and_true, w_icmp_eq, w_icmp_ne, w_icmp_lt, w_icmp_ge, w_icmp_gt, w_icmp_le, w_if_eq, w_if_ne, w_if_lt, w_if_ge, w_if_gt, w_if_le, tX2_allSaw_0, kX2_allSaw_0, tX2_allSaw_4, kX2_allSaw_4, tX2_allSaw_27, kX2_allSaw_27, hX2_allSaw_4, ci_0, w_g64, w_g75, ci_1, lg_0, lg_1, lg_2]
  have loop : ∀ m k, k + m = C 0 0 → Runs nX2_allSaw d Q 4 [some (.ref c), some (.int (nI (smK (fun j => C 11 j) k))), some (.int (nI k))] [] M L := by
    intro m
    induction m with
    | zero =>
      intro k hk
      refine wpH_runs oX2_allSaw 60 4 oX2_allSaw_4 ?_
      simp (disch := omega) only [w_N, w_iconst, w_lcst, w_iload, w_lload, w_aload, m_i_s, m_l_s, m_a_s, w_istore, w_lstore, w_astore, w_iinc, w_iadd, w_isub, w_imul, w_iand, w_ior, w_ixor, w_ishl, w_ishr, w_iushr, w_idiv, w_irem, w_ineg, w_ladd, w_lsub, w_lmul, w_ldiv, w_lrem, w_lcmp, w_i2l, w_l2i, w_i2b, w_i2s, w_dupi, w_dupr, w_popi, w_popr, w_dup2, w_goto, w_cut, w_switch, sw_nil, sw_cons, w_iald, w_bald, w_zald, w_aald, w_iast, w_bast, w_zast, w_ireturn, w_zr0, w_zr1, w_lreturn, w_areturn, w_vreturn, w_cpy, w_mmax, w_mmin, w_sald, w_slen, sc_nil, sc_i, sc_r, sc_l, tl_s, tl_n, ls1, ls2, lk1, hd0, Int.reduceToNat, Nat.reduceAdd, Nat.reduceLeDiff, Nat.reduceMul, true_and, and_true, w_icmp_eq, w_icmp_ne, w_icmp_lt, w_icmp_ge, w_icmp_gt, w_icmp_le, w_if_eq, w_if_ne, w_if_lt, w_if_ge, w_if_gt, w_if_le, tX2_allSaw_0, kX2_allSaw_0, tX2_allSaw_4, kX2_allSaw_4, tX2_allSaw_27, kX2_allSaw_27, hX2_allSaw_4, ci_0, w_g64, w_g75, ci_1, lg_0, lg_1, lg_2, k0, e0, nI_leI]
      refine ⟨fun _ => ?_, fun z => absurd (by omega) z⟩
      unfold alS at hq
      rw [show C 0 0 = k by omega] at hq
      exact hq
    | succ m ih =>
      intro k hk
      refine wpH_runs oX2_allSaw 60 4 oX2_allSaw_4 ?_
      simp (disch := omega) only [w_N, w_iconst, w_lcst, w_iload, w_lload, w_aload, m_i_s, m_l_s, m_a_s, w_istore, w_lstore, w_astore, w_iinc, w_iadd, w_isub, w_imul, w_iand, w_ior, w_ixor, w_ishl, w_ishr, w_iushr, w_idiv, w_irem, w_ineg, w_ladd, w_lsub, w_lmul, w_ldiv, w_lrem, w_lcmp, w_i2l, w_l2i, w_i2b, w_i2s, w_dupi, w_dupr, w_popi, w_popr, w_dup2, w_goto, w_cut, w_switch, sw_nil, sw_cons, w_iald, w_bald, w_zald, w_aald, w_iast, w_bast, w_zast, w_ireturn, w_zr0, w_zr1, w_lreturn, w_areturn, w_vreturn, w_cpy, w_mmax, w_mmin, w_sald, w_slen, sc_nil, sc_i, sc_r, sc_l, tl_s, tl_n, ls1, ls2, lk1, hd0, Int.reduceToNat, Nat.reduceAdd, Nat.reduceLeDiff, Nat.reduceMul, true_and, and_true, w_icmp_eq, w_icmp_ne, w_icmp_lt, w_icmp_ge, w_icmp_gt, w_icmp_le, w_if_eq, w_if_ne, w_if_lt, w_if_ge, w_if_gt, w_if_le, tX2_allSaw_0, kX2_allSaw_0, tX2_allSaw_4, kX2_allSaw_4, tX2_allSaw_27, kX2_allSaw_27, hX2_allSaw_4, ci_0, w_g64, w_g75, ci_1, lg_0, lg_1, lg_2, k0, k1, l1, e0, nI_leI]
      refine ⟨fun z => absurd z (by omega), fun _ => exj (by omega) ?_⟩
      rw [h.w (by omega), nI_add, nI_add]
      exact ih (k + 1) (by omega)
  exact loop (C 0 0) 0 (by omega)
end
