section
variable {d c : Nat} {M : Mm} {L : Ml} {Q : Qt} {C : Ci}
theorem x_seeWink (hc : isC c) (h : rC M c C) (hw : wf C) {p : Nat} (hp : p < C 0 0) (hq : ∀ M', rC M' c (see1 C p) → fr c M M' → Q none M' L) : Good d nX2_seeWink [.ref c, .int (nI p)] M L Q := by
  obtain ⟨k0, k1, l1⟩ := isC_f c hc
  obtain ⟨⟨hP, hP8⟩, -, h2, h4, h5, hj⟩ := hw
  have h11 := (hj p hp).2.2.2.2.2.2.2
  have fin : ∀ s (M1 : Mm), s = (if C 11 p < 99 then C 11 p + 1 else 99) → rC M1 c (cu C 11 p s) → fr c M M1 → (s < C 2 0 → Q none M1 L) ∧ (¬ s < C 2 0 → Q none (um M1 c 4 (nI 1)) L) := by
    intro s M1 hs h1 hf
    unfold see1 at hq
    rw [← hs] at hq
    refine ⟨fun z => hq _ ?_ hf, fun z => hq _ ?_ (hf.um (by omega) (by omega))⟩
    · rw [if_neg (by omega)]; exact h1
    · rw [if_pos (by omega)]; exact h1.sc (by decide) (by decide)
  have e2 := h.1 2 (by decide)
  refine eX2_seeWink _ _ ?_
  simp (disch := omega) only [w_N, w_iconst, w_lcst, w_iload, w_lload, w_aload, m_i_s, m_l_s, m_a_s, w_istore, w_lstore, w_astore, w_iinc, w_iadd, w_isub, w_imul, w_iand, w_ior, w_ixor, w_ishl, w_ishr, w_iushr, w_idiv, w_irem, w_ineg, w_ladd, w_lsub, w_lmul, w_ldiv, w_lrem, w_lcmp, w_i2l, w_l2i, w_i2b, w_i2s, w_dupi, w_dupr, w_popi, w_popr, w_dup2, w_goto, w_cut, w_switch, sw_nil, sw_cons, w_iald, w_bald, w_zald, w_aald, w_iast, w_bast, w_zast, w_ireturn, w_zr0, w_zr1, w_lreturn, w_areturn, w_vreturn, w_cpy, w_mmax, w_mmin, w_sald, w_slen, sc_nil, sc_i, sc_r, sc_l, tl_s, tl_n, ls1, ls2, lk1, hd0, Int.reduceToNat, Nat.reduceAdd, Nat.reduceLeDiff, Nat.reduceMul, true_and, and_true, w_icmp_eq, w_icmp_ne, w_icmp_lt, w_icmp_ge, w_icmp_gt, w_icmp_le, w_if_eq, w_if_ne, w_if_lt, w_if_ge, w_if_gt, w_if_le, tX2_seeWink_0, kX2_seeWink_0, tX2_seeWink_21, kX2_seeWink_21, tX2_seeWink_39, kX2_seeWink_39, w_g75, ci_99, ci_1, w_g66, w_p68, lg_0, lg_1, k0, k1, l1, zb1, e2]
  try simp only [cm_1, cm_1000000, cm_1000001, cm_1000002, cm_1000003, cm_1000010, cm_1000100, lm_1000001, lm_1000002]
  refine exj (by omega) ?_
  rw [h.w hp]
  simp (disch := omega) only [nI_leI]
  refine ⟨fun z => exj (by omega) ?_, fun z => exj (by omega) (exj (by omega) (exj (by omega) ?_))⟩
  · rw [h.w hp]
    simp (disch := omega) only [nI_ltI]
    refine fin (C 11 p) M ?_ ?_ fr.rf
    · rw [if_neg (by omega)]; omega
    · have := h.cg (C' := cu C 11 p (C 11 p)) (fun k hk => cu_ne (by omega)) (fun f h1 h2 j hj => by by_cases q : f = 11; subst q; rw [cu_at]; split; (rename_i e; rw [e]); rfl; exact cu_ne q)
      exact this
  · have h1 := h.a11 p (C 11 p + 1)
    have e2' : um M (c + 6) p (nI (C 11 p + 1)) c 2 = nI (C 2 0) := h1.1 2 (by decide)
    rw [h.w hp, nI_add, h1.w (show p < C 0 0 from hp), e2', cu_s]
    simp (disch := omega) only [nI_ltI]
    exact fin (C 11 p + 1) _ (by rw [if_pos (by omega)]) h1 (fr.rf.um (by omega) (by omega))
theorem x_fade (hc : isC c) (h : rC M c C) (hw : wf C) (hq : ∀ M', rC M' c (fdK C (C 0 0)) → fr c M M' → Q none M' L) : Good d nX2_fade [.ref c] M L Q := by
  obtain ⟨k0, k1, l1⟩ := isC_f c hc
  obtain ⟨⟨hP, hP8⟩, -, h2, h4, h5, hj⟩ := hw
  refine eX2_fade _ ?_
  simp (disch := omega) only [w_N, w_iconst, w_lcst, w_iload, w_lload, w_aload, m_i_s, m_l_s, m_a_s, w_istore, w_lstore, w_astore, w_iinc, w_iadd, w_isub, w_imul, w_iand, w_ior, w_ixor, w_ishl, w_ishr, w_iushr, w_idiv, w_irem, w_ineg, w_ladd, w_lsub, w_lmul, w_ldiv, w_lrem, w_lcmp, w_i2l, w_l2i, w_i2b, w_i2s, w_dupi, w_dupr, w_popi, w_popr, w_dup2, w_goto, w_cut, w_switch, sw_nil, sw_cons, w_iald, w_bald, w_zald, w_aald, w_iast, w_bast, w_zast, w_ireturn, w_zr0, w_zr1, w_lreturn, w_areturn, w_vreturn, w_cpy, w_mmax, w_mmin, w_sald, w_slen, sc_nil, sc_i, sc_r, sc_l, tl_s, tl_n, ls1, ls2, lk1, hd0, Int.reduceToNat, Nat.reduceAdd, Nat.reduceLeDiff, Nat.reduceMul, true_and, and_true, w_icmp_eq, w_icmp_ne, w_icmp_lt, w_icmp_ge, w_icmp_gt, w_icmp_le, w_if_eq, w_if_ne, w_if_lt, w_if_ge, w_if_gt, w_if_le, tX2_fade_0, kX2_fade_0, tX2_fade_2, kX2_fade_2, tX2_fade_61, kX2_fade_61, tX2_fade_67, kX2_fade_67, hX2_fade_2, ci_0, ci_1, w_g64, w_g73, w_g74, ci_2, w_g71, lg_0, lg_1]
  try simp only [cm_1, cm_1000000, cm_1000001, cm_1000002, cm_1000003, cm_1000010, cm_1000100, lm_1000001, lm_1000002]
  have loop : ∀ m k (M1 : Mm), k + m = C 0 0 → rC M1 c (fdK C k) → fr c M M1 → Runs nX2_fade d Q 2 [some (.ref c), some (.int (nI k))] [] M1 L := by
    intro m
    induction m with
    | zero =>
      intro k M1 hk h1 hf
      have e0 : M1 c 0 = nI (C 0 0) := (h1.1 0 (by decide)).trans (by rw [fdK_ne (by decide) (by decide) (by decide)])
      refine wpH_runs oX2_fade 60 2 oX2_fade_2 ?_
      simp (disch := omega) only [w_N, w_iconst, w_lcst, w_iload, w_lload, w_aload, m_i_s, m_l_s, m_a_s, w_istore, w_lstore, w_astore, w_iinc, w_iadd, w_isub, w_imul, w_iand, w_ior, w_ixor, w_ishl, w_ishr, w_iushr, w_idiv, w_irem, w_ineg, w_ladd, w_lsub, w_lmul, w_ldiv, w_lrem, w_lcmp, w_i2l, w_l2i, w_i2b, w_i2s, w_dupi, w_dupr, w_popi, w_popr, w_dup2, w_goto, w_cut, w_switch, sw_nil, sw_cons, w_iald, w_bald, w_zald, w_aald, w_iast, w_bast, w_zast, w_ireturn, w_zr0, w_zr1, w_lreturn, w_areturn, w_vreturn, w_cpy, w_mmax, w_mmin, w_sald, w_slen, sc_nil, sc_i, sc_r, sc_l, tl_s, tl_n, ls1, ls2, lk1, hd0, Int.reduceToNat, Nat.reduceAdd, Nat.reduceLeDiff, Nat.reduceMul, true_and, and_true, w_icmp_eq, w_icmp_ne, w_icmp_lt, w_icmp_ge, w_icmp_gt, w_icmp_le, w_if_eq, w_if_ne, w_if_lt, w_if_ge, w_if_gt, w_if_le, tX2_fade_0, kX2_fade_0, tX2_fade_2, kX2_fade_2, tX2_fade_61, kX2_fade_61, tX2_fade_67, kX2_fade_67, hX2_fade_2, ci_0, ci_1, w_g64, w_g73, w_g74, ci_2, w_g71, lg_0, lg_1, k0, e0, nI_leI]
      try simp only [cm_1, cm_1000000, cm_1000001, cm_1000002, cm_1000003, cm_1000010, cm_1000100, lm_1000001, lm_1000002]
      refine ⟨fun _ => hq M1 ?_ hf, fun z => absurd (by omega) z⟩
      rw [show C 0 0 = k by omega]
      exact h1
    | succ m ih =>
      intro k M1 hk h1 hf
      have f0 : fdK C k 0 0 = C 0 0 := fdK_ne (by decide) (by decide) (by decide)
      have e0 : M1 c 0 = nI (C 0 0) := (h1.1 0 (by decide)).trans (by rw [f0])
      have hk' : k < fdK C k 0 0 := by rw [f0]; omega
      obtain ⟨a1, a2, a3, a4, a5, a6, a7, a8⟩ := hj k (by omega)
      refine wpH_runs oX2_fade 60 2 oX2_fade_2 ?_
      simp (disch := omega) only [w_N, w_iconst, w_lcst, w_iload, w_lload, w_aload, m_i_s, m_l_s, m_a_s, w_istore, w_lstore, w_astore, w_iinc, w_iadd, w_isub, w_imul, w_iand, w_ior, w_ixor, w_ishl, w_ishr, w_iushr, w_idiv, w_irem, w_ineg, w_ladd, w_lsub, w_lmul, w_ldiv, w_lrem, w_lcmp, w_i2l, w_l2i, w_i2b, w_i2s, w_dupi, w_dupr, w_popi, w_popr, w_dup2, w_goto, w_cut, w_switch, sw_nil, sw_cons, w_iald, w_bald, w_zald, w_aald, w_iast, w_bast, w_zast, w_ireturn, w_zr0, w_zr1, w_lreturn, w_areturn, w_vreturn, w_cpy, w_mmax, w_mmin, w_sald, w_slen, sc_nil, sc_i, sc_r, sc_l, tl_s, tl_n, ls1, ls2, lk1, hd0, Int.reduceToNat, Nat.reduceAdd, Nat.reduceLeDiff, Nat.reduceMul, true_and, and_true, w_icmp_eq, w_icmp_ne, w_icmp_lt, w_icmp_ge, w_icmp_gt, w_icmp_le, w_if_eq, w_if_ne, w_if_lt, w_if_ge, w_if_gt, w_if_le, tX2_fade_0, kX2_fade_0, tX2_fade_2, kX2_fade_2, tX2_fade_61, kX2_fade_61, tX2_fade_67, kX2_fade_67, hX2_fade_2, ci_0, ci_1, w_g64, w_g73, w_g74, ci_2, w_g71, lg_0, lg_1, k0, k1, l1, e0, nI_leI]
      try simp only [cm_1, cm_1000000, cm_1000001, cm_1000002, cm_1000003, cm_1000010, cm_1000100, lm_1000001, lm_1000002]
      refine ⟨fun z => absurd z (by omega), fun _ => exj (by omega) ?_⟩
      rw [h1.h hk', fdK_at, nI_add]
      simp (disch := omega) only [nI_eq]
      refine ⟨fun z => ?_, fun z => exj (by omega) (exj (by omega) (exj (by omega) ?_))⟩
      · exact ih (k + 1) M1 (by omega) (by rw [← fdK_s z]; exact h1) hf
      · have b1 := a6 z
        have h3 := h1.a10 k (C 10 k - 1)
        have hk3 : k < cu (fdK C k) 10 k (C 10 k - 1) 0 0 := hk'
        rw [h1.f hk', fdK_at, pk_sub b1, h3.f hk3, cu_s]
        simp (disch := omega) only [nI_leI, nI_ltI, ← zn0]
        refine ⟨fun y => ?_, fun y => exj (by omega) (exj (by omega) (exj (by omega) ?_))⟩
        · exact ih (k + 1) _ (by omega) (by rw [← fdK_t z (by omega)]; exact h3) (hf.um (by omega) (by omega))
        · refine ih (k + 1) _ (by omega) ?_ ((((hf.um (by omega) (by omega)).um (by omega) (by omega)).um (by omega) (by omega)).um (by omega) (by omega))
          rw [← fdK_d z (by omega), ← lkC_99]
          have h4 := ((h3.a10 k 0).a9 k 2).a7 k 99
          refine h4.cg (fun i hi => ?_) (fun f g1 g2 j hj => ?_)
          · by_cases q1 : i = 7; omega
            rw [cu_ne (show i ≠ 7 by omega), cu_ne (show i ≠ 9 by omega), cu_ne (show i ≠ 10 by omega), cu_ne (show i ≠ 7 by omega), cu_ne (show i ≠ 9 by omega), cu_ne (show i ≠ 10 by omega), cu_ne (show i ≠ 10 by omega)]
          · unfold cu
            repeat' split
            all_goals first | rfl | omega
  exact loop (C 0 0) 0 M (by omega) (by rw [fdK_0]; exact h) fr.rf
theorem x_wink (hc : isC c) (h : rC M c C) (hw : wf C) (hq : ∀ M', rC M' c (wk C) → fr c M M' → Q none M' L) : Good (d + 1) nX2_wink [.ref c] M L Q := by
  obtain ⟨k0, k1, l1⟩ := isC_f c hc
  obtain ⟨⟨hP, hP8⟩, hm, h2, h4, h5, hj⟩ := id hw
  have e4 := h.1 4 (by decide)
  have e1 := h.1 1 (by decide)
  have hm9 := (hj _ hm).2.2.2.1
  have hm7 := (hj _ hm).2.1
  refine eX2_wink _ ?_
  unfold wk at hq
  have skip : (C 4 0 = 1 ∨ C 9 (C 1 0) = 2 ∨ C 7 (C 1 0) = 99 ∨ C 9 (C 7 (C 1 0)) ≠ 0 ∨ C 7 (C 7 (C 1 0)) ≠ C 1 0) → Q none M L := fun z => hq M (by rw [if_pos z]; exact h) fr.rf
  simp (disch := omega) only [w_N, w_iconst, w_lcst, w_iload, w_lload, w_aload, m_i_s, m_l_s, m_a_s, w_istore, w_lstore, w_astore, w_iinc, w_iadd, w_isub, w_imul, w_iand, w_ior, w_ixor, w_ishl, w_ishr, w_iushr, w_idiv, w_irem, w_ineg, w_ladd, w_lsub, w_lmul, w_ldiv, w_lrem, w_lcmp, w_i2l, w_l2i, w_i2b, w_i2s, w_dupi, w_dupr, w_popi, w_popr, w_dup2, w_goto, w_cut, w_switch, sw_nil, sw_cons, w_iald, w_bald, w_zald, w_aald, w_iast, w_bast, w_zast, w_ireturn, w_zr0, w_zr1, w_lreturn, w_areturn, w_vreturn, w_cpy, w_mmax, w_mmin, w_sald, w_slen, sc_nil, sc_i, sc_r, sc_l, tl_s, tl_n, ls1, ls2, lk1, hd0, Int.reduceToNat, Nat.reduceAdd, Nat.reduceLeDiff, Nat.reduceMul, true_and, and_true, w_icmp_eq, w_icmp_ne, w_icmp_lt, w_icmp_ge, w_icmp_gt, w_icmp_le, w_if_eq, w_if_ne, w_if_lt, w_if_ge, w_if_gt, w_if_le, tX2_wink_0, kX2_wink_0, tX2_wink_31, kX2_wink_31, tX2_wink_32, kX2_wink_32, tX2_wink_72, kX2_wink_72, tX2_wink_73, kX2_wink_73, tX2_wink_96, kX2_wink_96, tX2_wink_145, kX2_wink_145, tX2_wink_151, kX2_wink_151, hX2_wink_96, w_g68, w_g65, wc_X2_has, w_g73, ci_2, w_g71, ci_1, w_g74, w_g72, ci_0, w_g64, wc_X2_seeWink, lg_0, lg_1, lg_2, k0, k1, l1, e4, e1, ← zn0, nI_eq]
  try simp only [cm_1, cm_1000000, cm_1000001, cm_1000002, cm_1000003, cm_1000010, cm_1000100, lm_1000001, lm_1000002]
  refine ⟨fun z => skip (Or.inl (by omega)), fun z => callOk (Nat.lt_succ_self d) (x_has_t hc h hP8 hm ?_)⟩
  simp (disch := omega) only [w_N, w_iconst, w_lcst, w_iload, w_lload, w_aload, m_i_s, m_l_s, m_a_s, w_istore, w_lstore, w_astore, w_iinc, w_iadd, w_isub, w_imul, w_iand, w_ior, w_ixor, w_ishl, w_ishr, w_iushr, w_idiv, w_irem, w_ineg, w_ladd, w_lsub, w_lmul, w_ldiv, w_lrem, w_lcmp, w_i2l, w_l2i, w_i2b, w_i2s, w_dupi, w_dupr, w_popi, w_popr, w_dup2, w_goto, w_cut, w_switch, sw_nil, sw_cons, w_iald, w_bald, w_zald, w_aald, w_iast, w_bast, w_zast, w_ireturn, w_zr0, w_zr1, w_lreturn, w_areturn, w_vreturn, w_cpy, w_mmax, w_mmin, w_sald, w_slen, sc_nil, sc_i, sc_r, sc_l, tl_s, tl_n, ls1, ls2, lk1, hd0, Int.reduceToNat, Nat.reduceAdd, Nat.reduceLeDiff, Nat.reduceMul, true_and, and_true, w_icmp_eq, w_icmp_ne, w_icmp_lt, w_icmp_ge, w_icmp_gt, w_icmp_le, w_if_eq, w_if_ne, w_if_lt, w_if_ge, w_if_gt, w_if_le, tX2_wink_0, kX2_wink_0, tX2_wink_31, kX2_wink_31, tX2_wink_32, kX2_wink_32, tX2_wink_72, kX2_wink_72, tX2_wink_73, kX2_wink_73, tX2_wink_96, kX2_wink_96, tX2_wink_145, kX2_wink_145, tX2_wink_151, kX2_wink_151, hX2_wink_96, w_g68, w_g65, wc_X2_has, w_g73, ci_2, w_g71, ci_1, w_g74, w_g72, ci_0, w_g64, wc_X2_seeWink, lg_0, lg_1, lg_2, k0, k1, l1, e1, ← zn0, nI_eq]
  try simp only [cm_1, cm_1000000, cm_1000001, cm_1000002, cm_1000003, cm_1000010, cm_1000100, lm_1000001, lm_1000002]
  refine ⟨fun y => absurd y (by decide), fun _ => exj (by omega) ?_⟩
  rw [h.h hm]
  simp (disch := omega) only [nI_eq]
  refine ⟨fun z9 => exj (by omega) ?_, fun z9 => skip (Or.inr (Or.inl z9))⟩
  rw [h.l hm]
  rcases hm7 with q | ⟨hv, hvm⟩
  · rw [q, lkC_99]
    refine callOk (Nat.lt_succ_self d) (x_has_f hc h (Or.inl ?_) ?_)
    · rw [Int32.lt_iff_toInt_lt, c_NONE_i]; decide
    · simp (disch := omega) only [w_N, w_iconst, w_lcst, w_iload, w_lload, w_aload, m_i_s, m_l_s, m_a_s, w_istore, w_lstore, w_astore, w_iinc, w_iadd, w_isub, w_imul, w_iand, w_ior, w_ixor, w_ishl, w_ishr, w_iushr, w_idiv, w_irem, w_ineg, w_ladd, w_lsub, w_lmul, w_ldiv, w_lrem, w_lcmp, w_i2l, w_l2i, w_i2b, w_i2s, w_dupi, w_dupr, w_popi, w_popr, w_dup2, w_goto, w_cut, w_switch, sw_nil, sw_cons, w_iald, w_bald, w_zald, w_aald, w_iast, w_bast, w_zast, w_ireturn, w_zr0, w_zr1, w_lreturn, w_areturn, w_vreturn, w_cpy, w_mmax, w_mmin, w_sald, w_slen, sc_nil, sc_i, sc_r, sc_l, tl_s, tl_n, ls1, ls2, lk1, hd0, Int.reduceToNat, Nat.reduceAdd, Nat.reduceLeDiff, Nat.reduceMul, true_and, and_true, w_icmp_eq, w_icmp_ne, w_icmp_lt, w_icmp_ge, w_icmp_gt, w_icmp_le, w_if_eq, w_if_ne, w_if_lt, w_if_ge, w_if_gt, w_if_le, tX2_wink_0, kX2_wink_0, tX2_wink_31, kX2_wink_31, tX2_wink_32, kX2_wink_32, tX2_wink_72, kX2_wink_72, tX2_wink_73, kX2_wink_73, tX2_wink_96, kX2_wink_96, tX2_wink_145, kX2_wink_145, tX2_wink_151, kX2_wink_151, hX2_wink_96, w_g68, w_g65, wc_X2_has, w_g73, ci_2, w_g71, ci_1, w_g74, w_g72, ci_0, w_g64, wc_X2_seeWink, lg_0, lg_1, lg_2, k0, k1, l1, e1, ← zn0, nI_eq]
      try simp only [cm_1, cm_1000000, cm_1000001, cm_1000002, cm_1000003, cm_1000010, cm_1000100, lm_1000001, lm_1000002]
      exact ⟨fun _ => skip (Or.inr (Or.inr (Or.inl q))), fun y => absurd trivial y⟩
  · have hv9 := (hj _ hv).2.2.2.1
    have hv7 := (hj _ hv).2.1
    have hv8 := (hj _ hv).2.2.1
    generalize hvd : C 7 (C 1 0) = v at hv hvm hv9 hv7 hv8 skip hq ⊢
    rw [lkC_e (by omega)]
    refine callOk (Nat.lt_succ_self d) (x_has_t hc h hP8 hv ?_)
    simp (disch := omega) only [w_N, w_iconst, w_lcst, w_iload, w_lload, w_aload, m_i_s, m_l_s, m_a_s, w_istore, w_lstore, w_astore, w_iinc, w_iadd, w_isub, w_imul, w_iand, w_ior, w_ixor, w_ishl, w_ishr, w_iushr, w_idiv, w_irem, w_ineg, w_ladd, w_lsub, w_lmul, w_ldiv, w_lrem, w_lcmp, w_i2l, w_l2i, w_i2b, w_i2s, w_dupi, w_dupr, w_popi, w_popr, w_dup2, w_goto, w_cut, w_switch, sw_nil, sw_cons, w_iald, w_bald, w_zald, w_aald, w_iast, w_bast, w_zast, w_ireturn, w_zr0, w_zr1, w_lreturn, w_areturn, w_vreturn, w_cpy, w_mmax, w_mmin, w_sald, w_slen, sc_nil, sc_i, sc_r, sc_l, tl_s, tl_n, ls1, ls2, lk1, hd0, Int.reduceToNat, Nat.reduceAdd, Nat.reduceLeDiff, Nat.reduceMul, true_and, and_true, w_icmp_eq, w_icmp_ne, w_icmp_lt, w_icmp_ge, w_icmp_gt, w_icmp_le, w_if_eq, w_if_ne, w_if_lt, w_if_ge, w_if_gt, w_if_le, tX2_wink_0, kX2_wink_0, tX2_wink_31, kX2_wink_31, tX2_wink_32, kX2_wink_32, tX2_wink_72, kX2_wink_72, tX2_wink_73, kX2_wink_73, tX2_wink_96, kX2_wink_96, tX2_wink_145, kX2_wink_145, tX2_wink_151, kX2_wink_151, hX2_wink_96, w_g68, w_g65, wc_X2_has, w_g73, ci_2, w_g71, ci_1, w_g74, w_g72, ci_0, w_g64, wc_X2_seeWink, lg_0, lg_1, lg_2, k0, k1, l1, e1, ← zn0, nI_eq]
    try simp only [cm_1, cm_1000000, cm_1000001, cm_1000002, cm_1000003, cm_1000010, cm_1000100, lm_1000001, lm_1000002]
    refine ⟨fun y => absurd y (by decide), fun _ => exj (by omega) ?_⟩
    rw [h.h hv]
    simp (disch := omega) only [nI_eq]
    refine ⟨fun z => skip (Or.inr (Or.inr (Or.inr (Or.inl z)))), fun z0 => exj (by omega) ?_⟩
    rw [h.l hv, lkC_eq (by omega) (by omega)]
    refine ⟨fun z7 => exj (by omega) (exj (by omega) (exj (by omega) ?_)), fun z => skip (Or.inr (Or.inr (Or.inr (Or.inr z))))⟩
    have hh1 := h.a9 v 1
    have hh : rC (um (um M (c + 4) v (nI 1)) (c + 5) v (nI (C 8 v + 1))) c (hit C v) := hh1.a10 v (C 8 v + 1)
    rw [hh1.s (show v < C 0 0 from hv), cu_ne (by decide), nI_add]
    have hwh := wf_hit hw hv
    have ef : ∀ k x y, x ≠ 11 → x ≠ 4 → seeK (hit C v) v (C 1 0) k x y = hit C v x y := fun k x y a b => seeK_0 a b k
    have loop : ∀ m k (M1 : Mm), k + m = C 0 0 → rC M1 c (seeK (hit C v) v (C 1 0) k) → fr c M M1 → Runs nX2_wink (d + 1) Q 96 [some (.ref c), some (.int (nI v)), some (.int (nI k))] [] M1 L := by
      intro m
      induction m with
      | zero =>
        intro k M1 hk h1 hf
        have e0 : M1 c 0 = nI (C 0 0) := (h1.1 0 (by decide)).trans (by rw [ef _ _ _ (by decide) (by decide)]; rfl)
        refine wpH_runs oX2_wink 60 96 oX2_wink_96 ?_
        simp (disch := omega) only [w_N, w_iconst, w_lcst, w_iload, w_lload, w_aload, m_i_s, m_l_s, m_a_s, w_istore, w_lstore, w_astore, w_iinc, w_iadd, w_isub, w_imul, w_iand, w_ior, w_ixor, w_ishl, w_ishr, w_iushr, w_idiv, w_irem, w_ineg, w_ladd, w_lsub, w_lmul, w_ldiv, w_lrem, w_lcmp, w_i2l, w_l2i, w_i2b, w_i2s, w_dupi, w_dupr, w_popi, w_popr, w_dup2, w_goto, w_cut, w_switch, sw_nil, sw_cons, w_iald, w_bald, w_zald, w_aald, w_iast, w_bast, w_zast, w_ireturn, w_zr0, w_zr1, w_lreturn, w_areturn, w_vreturn, w_cpy, w_mmax, w_mmin, w_sald, w_slen, sc_nil, sc_i, sc_r, sc_l, tl_s, tl_n, ls1, ls2, lk1, hd0, Int.reduceToNat, Nat.reduceAdd, Nat.reduceLeDiff, Nat.reduceMul, true_and, and_true, w_icmp_eq, w_icmp_ne, w_icmp_lt, w_icmp_ge, w_icmp_gt, w_icmp_le, w_if_eq, w_if_ne, w_if_lt, w_if_ge, w_if_gt, w_if_le, tX2_wink_0, kX2_wink_0, tX2_wink_31, kX2_wink_31, tX2_wink_32, kX2_wink_32, tX2_wink_72, kX2_wink_72, tX2_wink_73, kX2_wink_73, tX2_wink_96, kX2_wink_96, tX2_wink_145, kX2_wink_145, tX2_wink_151, kX2_wink_151, hX2_wink_96, w_g68, w_g65, wc_X2_has, w_g73, ci_2, w_g71, ci_1, w_g74, w_g72, ci_0, w_g64, wc_X2_seeWink, lg_0, lg_1, lg_2, k0, e0, nI_leI]
        try simp only [cm_1, cm_1000000, cm_1000001, cm_1000002, cm_1000003, cm_1000010, cm_1000100, lm_1000001, lm_1000002]
        refine ⟨fun _ => hq M1 ?_ hf, fun z => absurd (by omega) z⟩
        rw [if_neg (by omega), show C 0 0 = k by omega]
        exact h1
      | succ m ih =>
        intro k M1 hk h1 hf
        have f0 : seeK (hit C v) v (C 1 0) k 0 0 = C 0 0 := ef _ _ _ (by decide) (by decide)
        have e0 : M1 c 0 = nI (C 0 0) := (h1.1 0 (by decide)).trans (by rw [f0])
        have e1 : M1 c 1 = nI (C 1 0) := (h1.1 1 (by decide)).trans (by rw [ef _ _ _ (by decide) (by decide)]; rfl)
        have hk' : k < seeK (hit C v) v (C 1 0) k 0 0 := by rw [f0]; omega
        have hwk := wf_seeK hwh v (C 1 0) k (show k ≤ C 0 0 by omega)
        have b9 := (hwk.2.2.2.2.2 k hk').2.2.2.1
        have b7 := (hwk.2.2.2.2.2 k hk').2.1
        rw [f0] at b7
        have nx := ih (k + 1)
        have hs1 : ¬ (k ≠ v ∧ k ≠ C 1 0 ∧ hit C v 9 k ≠ 2 ∧ hit C v 7 k = C 1 0) → Runs nX2_wink (d + 1) Q 96 [some (.ref c), some (.int (nI v)), some (.int (nI (k + 1)))] [] M1 L := fun z => nx M1 (by omega) (by show rC M1 c (if _ then _ else _); rw [if_neg z]; exact h1) hf
        refine wpH_runs oX2_wink 60 96 oX2_wink_96 ?_
        simp (disch := omega) only [w_N, w_iconst, w_lcst, w_iload, w_lload, w_aload, m_i_s, m_l_s, m_a_s, w_istore, w_lstore, w_astore, w_iinc, w_iadd, w_isub, w_imul, w_iand, w_ior, w_ixor, w_ishl, w_ishr, w_iushr, w_idiv, w_irem, w_ineg, w_ladd, w_lsub, w_lmul, w_ldiv, w_lrem, w_lcmp, w_i2l, w_l2i, w_i2b, w_i2s, w_dupi, w_dupr, w_popi, w_popr, w_dup2, w_goto, w_cut, w_switch, sw_nil, sw_cons, w_iald, w_bald, w_zald, w_aald, w_iast, w_bast, w_zast, w_ireturn, w_zr0, w_zr1, w_lreturn, w_areturn, w_vreturn, w_cpy, w_mmax, w_mmin, w_sald, w_slen, sc_nil, sc_i, sc_r, sc_l, tl_s, tl_n, ls1, ls2, lk1, hd0, Int.reduceToNat, Nat.reduceAdd, Nat.reduceLeDiff, Nat.reduceMul, true_and, and_true, w_icmp_eq, w_icmp_ne, w_icmp_lt, w_icmp_ge, w_icmp_gt, w_icmp_le, w_if_eq, w_if_ne, w_if_lt, w_if_ge, w_if_gt, w_if_le, tX2_wink_0, kX2_wink_0, tX2_wink_31, kX2_wink_31, tX2_wink_32, kX2_wink_32, tX2_wink_72, kX2_wink_72, tX2_wink_73, kX2_wink_73, tX2_wink_96, kX2_wink_96, tX2_wink_145, kX2_wink_145, tX2_wink_151, kX2_wink_151, hX2_wink_96, w_g68, w_g65, wc_X2_has, w_g73, ci_2, w_g71, ci_1, w_g74, w_g72, ci_0, w_g64, wc_X2_seeWink, lg_0, lg_1, lg_2, k0, k1, l1, e0, e1, nI_leI, nI_eq, nI_add]
        try simp only [cm_1, cm_1000000, cm_1000001, cm_1000002, cm_1000003, cm_1000010, cm_1000100, lm_1000001, lm_1000002]
        refine ⟨fun z => absurd z (by omega), fun _ => ⟨fun z => hs1 (by omega), fun z1 => ⟨fun z => hs1 (by omega), fun z2 => exj (by omega) ?_⟩⟩⟩
        rw [h1.h hk']
        simp (disch := omega) only [nI_eq]
        rw [ef _ _ _ (by decide) (by decide)] at b9 b7 ⊢
        refine ⟨fun z => hs1 (by omega), fun z3 => exj (by omega) ?_⟩
        rw [h1.l hk', ef _ _ _ (by decide) (by decide), lkC_eq (by omega) (by omega)]
        refine ⟨fun z => hs1 (by omega), fun z4 => callOk (Nat.lt_succ_self d) (x_seeWink hc h1 hwk hk' fun M2 h2 hf2 => ?_)⟩
        simp (disch := omega) only [w_N, w_iconst, w_lcst, w_iload, w_lload, w_aload, m_i_s, m_l_s, m_a_s, w_istore, w_lstore, w_astore, w_iinc, w_iadd, w_isub, w_imul, w_iand, w_ior, w_ixor, w_ishl, w_ishr, w_iushr, w_idiv, w_irem, w_ineg, w_ladd, w_lsub, w_lmul, w_ldiv, w_lrem, w_lcmp, w_i2l, w_l2i, w_i2b, w_i2s, w_dupi, w_dupr, w_popi, w_popr, w_dup2, w_goto, w_cut, w_switch, sw_nil, sw_cons, w_iald, w_bald, w_zald, w_aald, w_iast, w_bast, w_zast, w_ireturn, w_zr0, w_zr1, w_lreturn, w_areturn, w_vreturn, w_cpy, w_mmax, w_mmin, w_sald, w_slen, sc_nil, sc_i, sc_r, sc_l, tl_s, tl_n, ls1, ls2, lk1, hd0, Int.reduceToNat, Nat.reduceAdd, Nat.reduceLeDiff, Nat.reduceMul, true_and, and_true, w_icmp_eq, w_icmp_ne, w_icmp_lt, w_icmp_ge, w_icmp_gt, w_icmp_le, w_if_eq, w_if_ne, w_if_lt, w_if_ge, w_if_gt, w_if_le, tX2_wink_0, kX2_wink_0, tX2_wink_31, kX2_wink_31, tX2_wink_32, kX2_wink_32, tX2_wink_72, kX2_wink_72, tX2_wink_73, kX2_wink_73, tX2_wink_96, kX2_wink_96, tX2_wink_145, kX2_wink_145, tX2_wink_151, kX2_wink_151, hX2_wink_96, w_g68, w_g65, wc_X2_has, w_g73, ci_2, w_g71, ci_1, w_g74, w_g72, ci_0, w_g64, wc_X2_seeWink, lg_0, lg_1, lg_2, nI_add]
        try simp only [cm_1, cm_1000000, cm_1000001, cm_1000002, cm_1000003, cm_1000010, cm_1000100, lm_1000001, lm_1000002]
        refine nx M2 (by omega) ?_ (hf.tr hf2)
        show rC M2 c (if _ then _ else _)
        rw [if_pos ⟨z1, z2, z3, z4⟩]
        exact h2
    exact loop (C 0 0) 0 _ (by omega) hh ((fr.rf.um (by omega) (by omega)).um (by omega) (by omega))
theorem x_passTick (hc : isC c) (h : rC M c C) (hw : wf C) (h3 : C 3 0 < 100000) (hq : ∀ M', rC M' c (tk C) → fr c M M' → Q none M' L) : Good (d + 3) nX2_passTick [.ref c] M L Q := by
  obtain ⟨k0, k1, l1⟩ := isC_f c hc
  obtain ⟨⟨hP, hP8⟩, hm, h2, h4, h5, hj⟩ := id hw
  refine eX2_passTick _ ?_
  simp (disch := omega) only [w_N, w_iconst, w_lcst, w_iload, w_lload, w_aload, m_i_s, m_l_s, m_a_s, w_istore, w_lstore, w_astore, w_iinc, w_iadd, w_isub, w_imul, w_iand, w_ior, w_ixor, w_ishl, w_ishr, w_iushr, w_idiv, w_irem, w_ineg, w_ladd, w_lsub, w_lmul, w_ldiv, w_lrem, w_lcmp, w_i2l, w_l2i, w_i2b, w_i2s, w_dupi, w_dupr, w_popi, w_popr, w_dup2, w_goto, w_cut, w_switch, sw_nil, sw_cons, w_iald, w_bald, w_zald, w_aald, w_iast, w_bast, w_zast, w_ireturn, w_zr0, w_zr1, w_lreturn, w_areturn, w_vreturn, w_cpy, w_mmax, w_mmin, w_sald, w_slen, sc_nil, sc_i, sc_r, sc_l, tl_s, tl_n, ls1, ls2, lk1, hd0, Int.reduceToNat, Nat.reduceAdd, Nat.reduceLeDiff, Nat.reduceMul, true_and, and_true, w_icmp_eq, w_icmp_ne, w_icmp_lt, w_icmp_ge, w_icmp_gt, w_icmp_le, w_if_eq, w_if_ne, w_if_lt, w_if_ge, w_if_gt, w_if_le, tX2_passTick_0, kX2_passTick_0, tX2_passTick_2, kX2_passTick_2, tX2_passTick_27, kX2_passTick_27, hX2_passTick_2, ci_0, wc_X2_wink, wc_X2_fade, w_g67, ci_1, w_p67, w_g64, w_g71, wc_X2_nextLook, lg_0, lg_1]
  try simp only [cm_1, cm_1000000, cm_1000001, cm_1000002, cm_1000003, cm_1000010, cm_1000100, lm_1000001, lm_1000002]
  have loop : ∀ m k (M1 : Mm), k + m = C 0 0 → rC M1 c (lkK C k) → fr c M M1 → Runs nX2_passTick (d + 3) Q 2 [some (.ref c), some (.int (nI k))] [] M1 L := by
    intro m
    induction m with
    | zero =>
      intro k M1 hk h1 hf
      have e0 : M1 c 0 = nI (C 0 0) := h1.1 0 (by decide)
      have hkP : k = C 0 0 := by omega
      subst hkP
      refine wpH_runs oX2_passTick 60 2 oX2_passTick_2 ?_
      simp (disch := omega) only [w_N, w_iconst, w_lcst, w_iload, w_lload, w_aload, m_i_s, m_l_s, m_a_s, w_istore, w_lstore, w_astore, w_iinc, w_iadd, w_isub, w_imul, w_iand, w_ior, w_ixor, w_ishl, w_ishr, w_iushr, w_idiv, w_irem, w_ineg, w_ladd, w_lsub, w_lmul, w_ldiv, w_lrem, w_lcmp, w_i2l, w_l2i, w_i2b, w_i2s, w_dupi, w_dupr, w_popi, w_popr, w_dup2, w_goto, w_cut, w_switch, sw_nil, sw_cons, w_iald, w_bald, w_zald, w_aald, w_iast, w_bast, w_zast, w_ireturn, w_zr0, w_zr1, w_lreturn, w_areturn, w_vreturn, w_cpy, w_mmax, w_mmin, w_sald, w_slen, sc_nil, sc_i, sc_r, sc_l, tl_s, tl_n, ls1, ls2, lk1, hd0, Int.reduceToNat, Nat.reduceAdd, Nat.reduceLeDiff, Nat.reduceMul, true_and, and_true, w_icmp_eq, w_icmp_ne, w_icmp_lt, w_icmp_ge, w_icmp_gt, w_icmp_le, w_if_eq, w_if_ne, w_if_lt, w_if_ge, w_if_gt, w_if_le, tX2_passTick_0, kX2_passTick_0, tX2_passTick_2, kX2_passTick_2, tX2_passTick_27, kX2_passTick_27, hX2_passTick_2, ci_0, wc_X2_wink, wc_X2_fade, w_g67, ci_1, w_p67, w_g64, w_g71, wc_X2_nextLook, lg_0, lg_1, k0, e0, nI_leI]
      try simp only [cm_1, cm_1000000, cm_1000001, cm_1000002, cm_1000003, cm_1000010, cm_1000100, lm_1000001, lm_1000002]
      refine ⟨fun _ => callOk (show d + 1 < d + 3 by omega) (x_wink hc h1 (wf_lkK hw _) fun M2 g2 f2 => ?_), fun z => absurd (Nat.le_refl _) z⟩
      have hw2 := wf_wk (wf_lkK hw (C 0 0))
      simp (disch := omega) only [w_N, w_iconst, w_lcst, w_iload, w_lload, w_aload, m_i_s, m_l_s, m_a_s, w_istore, w_lstore, w_astore, w_iinc, w_iadd, w_isub, w_imul, w_iand, w_ior, w_ixor, w_ishl, w_ishr, w_iushr, w_idiv, w_irem, w_ineg, w_ladd, w_lsub, w_lmul, w_ldiv, w_lrem, w_lcmp, w_i2l, w_l2i, w_i2b, w_i2s, w_dupi, w_dupr, w_popi, w_popr, w_dup2, w_goto, w_cut, w_switch, sw_nil, sw_cons, w_iald, w_bald, w_zald, w_aald, w_iast, w_bast, w_zast, w_ireturn, w_zr0, w_zr1, w_lreturn, w_areturn, w_vreturn, w_cpy, w_mmax, w_mmin, w_sald, w_slen, sc_nil, sc_i, sc_r, sc_l, tl_s, tl_n, ls1, ls2, lk1, hd0, Int.reduceToNat, Nat.reduceAdd, Nat.reduceLeDiff, Nat.reduceMul, true_and, and_true, w_icmp_eq, w_icmp_ne, w_icmp_lt, w_icmp_ge, w_icmp_gt, w_icmp_le, w_if_eq, w_if_ne, w_if_lt, w_if_ge, w_if_gt, w_if_le, tX2_passTick_0, kX2_passTick_0, tX2_passTick_2, kX2_passTick_2, tX2_passTick_27, kX2_passTick_27, hX2_passTick_2, ci_0, wc_X2_wink, wc_X2_fade, w_g67, ci_1, w_p67, w_g64, w_g71, wc_X2_nextLook, lg_0, lg_1, k0]
      try simp only [cm_1, cm_1000000, cm_1000001, cm_1000002, cm_1000003, cm_1000010, cm_1000100, lm_1000001, lm_1000002]
      refine callOk (show d < d + 3 by omega) (x_fade hc g2 hw2 fun M3 g3 f3 => ?_)
      have ew : wk (lkK C (C 0 0)) 0 0 = C 0 0 := by rw [wk_0 (by decide) (by decide) (by decide) (by decide)]; rfl
      rw [ew] at g3
      have e3 : M3 c 3 = nI (C 3 0) := (g3.1 3 (by decide)).trans (by rw [fdK_ne (by decide) (by decide) (by decide), wk_0 (by decide) (by decide) (by decide) (by decide)]; rfl)
      simp (disch := omega) only [w_N, w_iconst, w_lcst, w_iload, w_lload, w_aload, m_i_s, m_l_s, m_a_s, w_istore, w_lstore, w_astore, w_iinc, w_iadd, w_isub, w_imul, w_iand, w_ior, w_ixor, w_ishl, w_ishr, w_iushr, w_idiv, w_irem, w_ineg, w_ladd, w_lsub, w_lmul, w_ldiv, w_lrem, w_lcmp, w_i2l, w_l2i, w_i2b, w_i2s, w_dupi, w_dupr, w_popi, w_popr, w_dup2, w_goto, w_cut, w_switch, sw_nil, sw_cons, w_iald, w_bald, w_zald, w_aald, w_iast, w_bast, w_zast, w_ireturn, w_zr0, w_zr1, w_lreturn, w_areturn, w_vreturn, w_cpy, w_mmax, w_mmin, w_sald, w_slen, sc_nil, sc_i, sc_r, sc_l, tl_s, tl_n, ls1, ls2, lk1, hd0, Int.reduceToNat, Nat.reduceAdd, Nat.reduceLeDiff, Nat.reduceMul, true_and, and_true, w_icmp_eq, w_icmp_ne, w_icmp_lt, w_icmp_ge, w_icmp_gt, w_icmp_le, w_if_eq, w_if_ne, w_if_lt, w_if_ge, w_if_gt, w_if_le, tX2_passTick_0, kX2_passTick_0, tX2_passTick_2, kX2_passTick_2, tX2_passTick_27, kX2_passTick_27, hX2_passTick_2, ci_0, wc_X2_wink, wc_X2_fade, w_g67, ci_1, w_p67, w_g64, w_g71, wc_X2_nextLook, lg_0, lg_1, k0, e3, nI_add]
      try simp only [cm_1, cm_1000000, cm_1000001, cm_1000002, cm_1000003, cm_1000010, cm_1000100, lm_1000001, lm_1000002]
      exact hq _ (g3.sc (by decide) (by decide)) (((hf.tr f2).tr f3).um (by omega) (by omega))
    | succ m ih =>
      intro k M1 hk h1 hf
      have e0 : M1 c 0 = nI (C 0 0) := h1.1 0 (by decide)
      refine wpH_runs oX2_passTick 60 2 oX2_passTick_2 ?_
      simp (disch := omega) only [w_N, w_iconst, w_lcst, w_iload, w_lload, w_aload, m_i_s, m_l_s, m_a_s, w_istore, w_lstore, w_astore, w_iinc, w_iadd, w_isub, w_imul, w_iand, w_ior, w_ixor, w_ishl, w_ishr, w_iushr, w_idiv, w_irem, w_ineg, w_ladd, w_lsub, w_lmul, w_ldiv, w_lrem, w_lcmp, w_i2l, w_l2i, w_i2b, w_i2s, w_dupi, w_dupr, w_popi, w_popr, w_dup2, w_goto, w_cut, w_switch, sw_nil, sw_cons, w_iald, w_bald, w_zald, w_aald, w_iast, w_bast, w_zast, w_ireturn, w_zr0, w_zr1, w_lreturn, w_areturn, w_vreturn, w_cpy, w_mmax, w_mmin, w_sald, w_slen, sc_nil, sc_i, sc_r, sc_l, tl_s, tl_n, ls1, ls2, lk1, hd0, Int.reduceToNat, Nat.reduceAdd, Nat.reduceLeDiff, Nat.reduceMul, true_and, and_true, w_icmp_eq, w_icmp_ne, w_icmp_lt, w_icmp_ge, w_icmp_gt, w_icmp_le, w_if_eq, w_if_ne, w_if_lt, w_if_ge, w_if_gt, w_if_le, tX2_passTick_0, kX2_passTick_0, tX2_passTick_2, kX2_passTick_2, tX2_passTick_27, kX2_passTick_27, hX2_passTick_2, ci_0, wc_X2_wink, wc_X2_fade, w_g67, ci_1, w_p67, w_g64, w_g71, wc_X2_nextLook, lg_0, lg_1, k0, k1, l1, e0, nI_leI]
      try simp only [cm_1, cm_1000000, cm_1000001, cm_1000002, cm_1000003, cm_1000010, cm_1000100, lm_1000001, lm_1000002]
      refine ⟨fun z => absurd z (by omega), fun _ => callOk (show d + 2 < d + 3 by omega) (x_nextLook hc h1 (wf_lkK hw _) h3 (show k < C 0 0 by omega) ?_)⟩
      simp (disch := omega) only [w_N, w_iconst, w_lcst, w_iload, w_lload, w_aload, m_i_s, m_l_s, m_a_s, w_istore, w_lstore, w_astore, w_iinc, w_iadd, w_isub, w_imul, w_iand, w_ior, w_ixor, w_ishl, w_ishr, w_iushr, w_idiv, w_irem, w_ineg, w_ladd, w_lsub, w_lmul, w_ldiv, w_lrem, w_lcmp, w_i2l, w_l2i, w_i2b, w_i2s, w_dupi, w_dupr, w_popi, w_popr, w_dup2, w_goto, w_cut, w_switch, sw_nil, sw_cons, w_iald, w_bald, w_zald, w_aald, w_iast, w_bast, w_zast, w_ireturn, w_zr0, w_zr1, w_lreturn, w_areturn, w_vreturn, w_cpy, w_mmax, w_mmin, w_sald, w_slen, sc_nil, sc_i, sc_r, sc_l, tl_s, tl_n, ls1, ls2, lk1, hd0, Int.reduceToNat, Nat.reduceAdd, Nat.reduceLeDiff, Nat.reduceMul, true_and, and_true, w_icmp_eq, w_icmp_ne, w_icmp_lt, w_icmp_ge, w_icmp_gt, w_icmp_le, w_if_eq, w_if_ne, w_if_lt, w_if_ge, w_if_gt, w_if_le, tX2_passTick_0, kX2_passTick_0, tX2_passTick_2, kX2_passTick_2, tX2_passTick_27, kX2_passTick_27, hX2_passTick_2, ci_0, wc_X2_wink, wc_X2_fade, w_g67, ci_1, w_p67, w_g64, w_g71, wc_X2_nextLook, lg_0, lg_1, k1, l1, nI_add]
      try simp only [cm_1, cm_1000000, cm_1000001, cm_1000002, cm_1000003, cm_1000010, cm_1000100, lm_1000001, lm_1000002]
      refine exj (by omega) (ih (k + 1) _ (by omega) ?_ (hf.um (by omega) (by omega)))
      rw [nl_lkK, ← lkK_s]
      exact h1.a7 k _
  exact loop (C 0 0) 0 M (by omega) (by rw [lkK_0]; exact h) fr.rf
theorem x_passTicks (hc : isC c) (h : rC M c C) (hw : wf C) {n : Nat} (hn : n < 10000) (h3 : C 3 0 + n < 100000) (hq : ∀ M', rC M' c (tkN n C) → fr c M M' → Q none M' L) : Good (d + 4) nX2_passTicks [.ref c, .int (nI n)] M L Q := by
  obtain ⟨k0, k1, l1⟩ := isC_f c hc
  refine eX2_passTicks _ _ ?_
  simp (disch := omega) only [w_N, w_iconst, w_lcst, w_iload, w_lload, w_aload, m_i_s, m_l_s, m_a_s, w_istore, w_lstore, w_astore, w_iinc, w_iadd, w_isub, w_imul, w_iand, w_ior, w_ixor, w_ishl, w_ishr, w_iushr, w_idiv, w_irem, w_ineg, w_ladd, w_lsub, w_lmul, w_ldiv, w_lrem, w_lcmp, w_i2l, w_l2i, w_i2b, w_i2s, w_dupi, w_dupr, w_popi, w_popr, w_dup2, w_goto, w_cut, w_switch, sw_nil, sw_cons, w_iald, w_bald, w_zald, w_aald, w_iast, w_bast, w_zast, w_ireturn, w_zr0, w_zr1, w_lreturn, w_areturn, w_vreturn, w_cpy, w_mmax, w_mmin, w_sald, w_slen, sc_nil, sc_i, sc_r, sc_l, tl_s, tl_n, ls1, ls2, lk1, hd0, Int.reduceToNat, Nat.reduceAdd, Nat.reduceLeDiff, Nat.reduceMul, true_and, and_true, w_icmp_eq, w_icmp_ne, w_icmp_lt, w_icmp_ge, w_icmp_gt, w_icmp_le, w_if_eq, w_if_ne, w_if_lt, w_if_ge, w_if_gt, w_if_le, tX2_passTicks_0, kX2_passTicks_0, tX2_passTicks_2, kX2_passTicks_2, tX2_passTicks_17, kX2_passTicks_17, hX2_passTicks_2, ci_0, wc_X2_passTick, ci_1, lg_0, lg_1, lg_2]
  try simp only [cm_1, cm_1000000, cm_1000001, cm_1000002, cm_1000003, cm_1000010, cm_1000100, lm_1000001, lm_1000002]
  have loop : ∀ m k (M1 : Mm), k + m = n → rC M1 c (tkN k C) → fr c M M1 → Runs nX2_passTicks (d + 4) Q 2 [some (.ref c), some (.int (nI n)), some (.int (nI k))] [] M1 L := by
    intro m
    induction m with
    | zero =>
      intro k M1 hk h1 hf
      have hkP : k = n := by omega
      subst hkP
      refine wpH_runs oX2_passTicks 60 2 oX2_passTicks_2 ?_
      simp (disch := omega) only [w_N, w_iconst, w_lcst, w_iload, w_lload, w_aload, m_i_s, m_l_s, m_a_s, w_istore, w_lstore, w_astore, w_iinc, w_iadd, w_isub, w_imul, w_iand, w_ior, w_ixor, w_ishl, w_ishr, w_iushr, w_idiv, w_irem, w_ineg, w_ladd, w_lsub, w_lmul, w_ldiv, w_lrem, w_lcmp, w_i2l, w_l2i, w_i2b, w_i2s, w_dupi, w_dupr, w_popi, w_popr, w_dup2, w_goto, w_cut, w_switch, sw_nil, sw_cons, w_iald, w_bald, w_zald, w_aald, w_iast, w_bast, w_zast, w_ireturn, w_zr0, w_zr1, w_lreturn, w_areturn, w_vreturn, w_cpy, w_mmax, w_mmin, w_sald, w_slen, sc_nil, sc_i, sc_r, sc_l, tl_s, tl_n, ls1, ls2, lk1, hd0, Int.reduceToNat, Nat.reduceAdd, Nat.reduceLeDiff, Nat.reduceMul, true_and, and_true, w_icmp_eq, w_icmp_ne, w_icmp_lt, w_icmp_ge, w_icmp_gt, w_icmp_le, w_if_eq, w_if_ne, w_if_lt, w_if_ge, w_if_gt, w_if_le, tX2_passTicks_0, kX2_passTicks_0, tX2_passTicks_2, kX2_passTicks_2, tX2_passTicks_17, kX2_passTicks_17, hX2_passTicks_2, ci_0, wc_X2_passTick, ci_1, lg_0, lg_1, lg_2, k0, nI_leI]
      try simp only [cm_1, cm_1000000, cm_1000001, cm_1000002, cm_1000003, cm_1000010, cm_1000100, lm_1000001, lm_1000002]
      exact ⟨fun _ => hq M1 h1 hf, fun z => absurd (Nat.le_refl _) z⟩
    | succ m ih =>
      intro k M1 hk h1 hf
      refine wpH_runs oX2_passTicks 60 2 oX2_passTicks_2 ?_
      simp (disch := omega) only [w_N, w_iconst, w_lcst, w_iload, w_lload, w_aload, m_i_s, m_l_s, m_a_s, w_istore, w_lstore, w_astore, w_iinc, w_iadd, w_isub, w_imul, w_iand, w_ior, w_ixor, w_ishl, w_ishr, w_iushr, w_idiv, w_irem, w_ineg, w_ladd, w_lsub, w_lmul, w_ldiv, w_lrem, w_lcmp, w_i2l, w_l2i, w_i2b, w_i2s, w_dupi, w_dupr, w_popi, w_popr, w_dup2, w_goto, w_cut, w_switch, sw_nil, sw_cons, w_iald, w_bald, w_zald, w_aald, w_iast, w_bast, w_zast, w_ireturn, w_zr0, w_zr1, w_lreturn, w_areturn, w_vreturn, w_cpy, w_mmax, w_mmin, w_sald, w_slen, sc_nil, sc_i, sc_r, sc_l, tl_s, tl_n, ls1, ls2, lk1, hd0, Int.reduceToNat, Nat.reduceAdd, Nat.reduceLeDiff, Nat.reduceMul, true_and, and_true, w_icmp_eq, w_icmp_ne, w_icmp_lt, w_icmp_ge, w_icmp_gt, w_icmp_le, w_if_eq, w_if_ne, w_if_lt, w_if_ge, w_if_gt, w_if_le, tX2_passTicks_0, kX2_passTicks_0, tX2_passTicks_2, kX2_passTicks_2, tX2_passTicks_17, kX2_passTicks_17, hX2_passTicks_2, ci_0, wc_X2_passTick, ci_1, lg_0, lg_1, lg_2, k0, nI_leI]
      try simp only [cm_1, cm_1000000, cm_1000001, cm_1000002, cm_1000003, cm_1000010, cm_1000100, lm_1000001, lm_1000002]
      refine ⟨fun z => absurd z (by omega), fun _ => callOk (show d + 3 < d + 4 by omega) (x_passTick hc h1 (wf_tkN k hw) (by rw [tkN_3]; omega) fun M2 g2 f2 => ?_)⟩
      simp (disch := omega) only [w_N, w_iconst, w_lcst, w_iload, w_lload, w_aload, m_i_s, m_l_s, m_a_s, w_istore, w_lstore, w_astore, w_iinc, w_iadd, w_isub, w_imul, w_iand, w_ior, w_ixor, w_ishl, w_ishr, w_iushr, w_idiv, w_irem, w_ineg, w_ladd, w_lsub, w_lmul, w_ldiv, w_lrem, w_lcmp, w_i2l, w_l2i, w_i2b, w_i2s, w_dupi, w_dupr, w_popi, w_popr, w_dup2, w_goto, w_cut, w_switch, sw_nil, sw_cons, w_iald, w_bald, w_zald, w_aald, w_iast, w_bast, w_zast, w_ireturn, w_zr0, w_zr1, w_lreturn, w_areturn, w_vreturn, w_cpy, w_mmax, w_mmin, w_sald, w_slen, sc_nil, sc_i, sc_r, sc_l, tl_s, tl_n, ls1, ls2, lk1, hd0, Int.reduceToNat, Nat.reduceAdd, Nat.reduceLeDiff, Nat.reduceMul, true_and, and_true, w_icmp_eq, w_icmp_ne, w_icmp_lt, w_icmp_ge, w_icmp_gt, w_icmp_le, w_if_eq, w_if_ne, w_if_lt, w_if_ge, w_if_gt, w_if_le, tX2_passTicks_0, kX2_passTicks_0, tX2_passTicks_2, kX2_passTicks_2, tX2_passTicks_17, kX2_passTicks_17, hX2_passTicks_2, ci_0, wc_X2_passTick, ci_1, lg_0, lg_1, lg_2, nI_add]
      try simp only [cm_1, cm_1000000, cm_1000001, cm_1000002, cm_1000003, cm_1000010, cm_1000100, lm_1000001, lm_1000002]
      exact ih (k + 1) M2 (by omega) (by rw [tkN_s]; exact g2) (hf.tr f2)
  exact loop n 0 M (by omega) h fr.rf
end
