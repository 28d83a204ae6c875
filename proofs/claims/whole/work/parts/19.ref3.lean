theorem isT_n {a : Nat} (h : isT a) : a ≠ 242 := by rcases h with rfl | rfl <;> decide
theorem kd_lk : kd 242 = 9 ∧ ln 242 = 8 ∧ kd 232 = 7 := by decide +kernel
theorem frP.rf {a : Nat} {M : Mm} : frP a M M := fun _ _ _ => rfl
theorem frP.tr {a : Nat} {M M1 M2 : Mm} (h1 : frP a M M1) (h2 : frP a M1 M2) : frP a M M2 := fun x hx hy => (h2 x hx hy).trans (h1 x hx hy)
theorem frP.ul {a : Nat} {M M1 : Mm} (h : frP a M M1) {k : Nat} {v : Int32} : frP a M (um M1 242 k v) := fun x hx hy => (um_ne M1 _ k v hy).trans (h x hx hy)
theorem frP.um {a : Nat} {M M1 : Mm} (h : frP a M M1) {k : Nat} {v : Int32} : frP a M (um M1 a k v) := fun x hx hy => (um_ne M1 a k v hx).trans (h x hx hy)
theorem fr1.P {a : Nat} {M M' : Mm} (h : fr1 a M M') : frP a M M' := fun x hx _ => h x hx
section
variable {d a : Nat} {M : Mm} {L : Ml} {Q : Qt} {C : Ci}
theorem z_passOn (ha : isT a) (h : rR M a 0 C) (hw : wf C) (h3 : C 3 0 < 100000) (hq : ∀ M', rR M' a 0 (tk C) → frP a M M' → Q (some (.int (nI (dth (wk (lkK C (C 0 0))) (C 0 0))))) M' L) : Good (d + 3) nX7_passOn [.ref 232, .ref a] M L Q := by
  obtain ⟨k0, l0⟩ := isT_f ha
  obtain ⟨kl, ll, km⟩ := kd_lk
  have hal := isT_n ha
  obtain ⟨⟨hP, hP8⟩, hm, h2, h4, h5, hj⟩ := id hw
  refine eX7_passOn _ _ ?_
  simp (disch := omega) only [w_N, w_iconst, w_lcst, w_iload, w_lload, w_aload, m_i_s, m_l_s, m_a_s, w_istore, w_lstore, w_astore, w_iinc, w_iadd, w_isub, w_imul, w_iand, w_ior, w_ixor, w_ishl, w_ishr, w_iushr, w_idiv, w_irem, w_ineg, w_ladd, w_lsub, w_lmul, w_ldiv, w_lrem, w_lcmp, w_i2l, w_l2i, w_i2b, w_i2s, w_dupi, w_dupr, w_popi, w_popr, w_dup2, w_goto, w_cut, w_switch, sw_nil, sw_cons, w_iald, w_bald, w_zald, w_aald, w_iast, w_bast, w_zast, w_ireturn, w_zr0, w_zr1, w_lreturn, w_areturn, w_vreturn, w_cpy, w_mmax, w_mmin, w_sald, w_slen, sc_nil, sc_i, sc_r, sc_l, tl_s, tl_n, ls1, ls2, lk1, hd0, Int.reduceToNat, Nat.reduceAdd, Nat.reduceLeDiff, Nat.reduceMul, true_and, and_true, w_icmp_eq, w_icmp_ne, w_icmp_lt, w_icmp_ge, w_icmp_gt, w_icmp_le, w_if_eq, w_if_ne, w_if_lt, w_if_ge, w_if_gt, w_if_le, tX7_passOn_0, kX7_passOn_0, tX7_passOn_2, kX7_passOn_2, tX7_passOn_26, kX7_passOn_26, tX7_passOn_28, kX7_passOn_28, tX7_passOn_53, kX7_passOn_53, tX7_passOn_61, kX7_passOn_61, tX7_passOn_114, kX7_passOn_114, tX7_passOn_120, kX7_passOn_120, hX7_passOn_2, hX7_passOn_28, hX7_passOn_61, ci_0, wc_X7_wink, ci_1, ci_4, w_g236, wc_X7_lookOf, ci_14, ci_46, ci_30, ci_2, lg_0, lg_1, lg_2, lg_3]
  try simp only [cm_1, cm_1000000, cm_1000001, cm_1000002, cm_1000003, cm_1000010, cm_1000100, lm_1000001, lm_1000002]
  have loop3 : ∀ m k (M1 : Mm) (D : Ci) (x : Option Value), D 0 0 = C 0 0 → wf D → D 3 0 = C 3 0 → k + m = C 0 0 → rR M1 a 0 (fdK D k) → frP a M M1 → (∀ M', rR M' a 0 (cu (fdK D (C 0 0)) 3 0 (C 3 0 + 1)) → frP a M M' → Q (some (.int (nI (dth D (C 0 0))))) M' L) → Runs nX7_passOn (d + 3) Q 61 [some (.ref 232), some (.ref a), some (.int (nI (dth D k))), some (.int (nI k))] [] M1 L := by
    intro m
    induction m with
    | zero =>
      intro k M1 D x hD hwD hD3 hk h1 hf hq
      have hkP : k = C 0 0 := by omega
      subst hkP
      have e0 : M1 a 0 = nI (C 0 0) := (h1.1 0 (by decide)).trans (by rw [fdK_ne (by decide) (by decide) (by decide), hD])
      have e3 : M1 a 4 = nI (C 3 0) := (h1.1 3 (by decide)).trans (by rw [fdK_ne (by decide) (by decide) (by decide), hD3])
      refine wpH_runs oX7_passOn 60 61 oX7_passOn_61 ?_
      simp (disch := omega) only [w_N, w_iconst, w_lcst, w_iload, w_lload, w_aload, m_i_s, m_l_s, m_a_s, w_istore, w_lstore, w_astore, w_iinc, w_iadd, w_isub, w_imul, w_iand, w_ior, w_ixor, w_ishl, w_ishr, w_iushr, w_idiv, w_irem, w_ineg, w_ladd, w_lsub, w_lmul, w_ldiv, w_lrem, w_lcmp, w_i2l, w_l2i, w_i2b, w_i2s, w_dupi, w_dupr, w_popi, w_popr, w_dup2, w_goto, w_cut, w_switch, sw_nil, sw_cons, w_iald, w_bald, w_zald, w_aald, w_iast, w_bast, w_zast, w_ireturn, w_zr0, w_zr1, w_lreturn, w_areturn, w_vreturn, w_cpy, w_mmax, w_mmin, w_sald, w_slen, sc_nil, sc_i, sc_r, sc_l, tl_s, tl_n, ls1, ls2, lk1, hd0, Int.reduceToNat, Nat.reduceAdd, Nat.reduceLeDiff, Nat.reduceMul, true_and, and_true, w_icmp_eq, w_icmp_ne, w_icmp_lt, w_icmp_ge, w_icmp_gt, w_icmp_le, w_if_eq, w_if_ne, w_if_lt, w_if_ge, w_if_gt, w_if_le, tX7_passOn_0, kX7_passOn_0, tX7_passOn_2, kX7_passOn_2, tX7_passOn_26, kX7_passOn_26, tX7_passOn_28, kX7_passOn_28, tX7_passOn_53, kX7_passOn_53, tX7_passOn_61, kX7_passOn_61, tX7_passOn_114, kX7_passOn_114, tX7_passOn_120, kX7_passOn_120, hX7_passOn_2, hX7_passOn_28, hX7_passOn_61, ci_0, wc_X7_wink, ci_1, ci_4, w_g236, wc_X7_lookOf, ci_14, ci_46, ci_30, ci_2, lg_0, lg_1, lg_2, lg_3, k0, l0, nI_add]
      try simp only [cm_1, cm_1000000, cm_1000001, cm_1000002, cm_1000003, cm_1000010, cm_1000100, lm_1000001, lm_1000002]
      refine exj (by omega) ?_
      rw [e0]
      simp (disch := omega) only [nI_leI]
      refine ⟨fun _ => exj (by omega) (exj (by omega) ?_), fun z => absurd (Nat.le_refl _) z⟩
      rw [e3, nI_add]
      exact hq _ (h1.sc 3 _ (by decide) (by decide)) hf.um
    | succ m ih =>
      intro k M1 D x hD hwD hD3 hk h1 hf hq
      have f0 : fdK D k 0 0 = C 0 0 := (fdK_ne (by decide) (by decide) (by decide)).trans hD
      have e0 : M1 a 0 = nI (C 0 0) := (h1.1 0 (by decide)).trans (by rw [f0])
      have hk' : k < fdK D k 0 0 := by rw [f0]; omega
      have hf8 : fdK D k 0 0 ≤ 8 := by rw [f0]; exact hP8
      obtain ⟨a1, a2, a3, a4, a5, a6, a7, a8⟩ := hwD.2.2.2.2.2 k (by rw [hD]; omega)
      have e9 := h1.h hk'
      rw [Nat.zero_add, fdK_at] at e9
      have e10 := h1.f hk'
      rw [Nat.zero_add, fdK_at] at e10
      have nx := fun M2 => ih (k + 1) M2 D none hD hwD hD3 (by omega)
      refine wpH_runs oX7_passOn 60 61 oX7_passOn_61 ?_
      simp (disch := omega) only [w_N, w_iconst, w_lcst, w_iload, w_lload, w_aload, m_i_s, m_l_s, m_a_s, w_istore, w_lstore, w_astore, w_iinc, w_iadd, w_isub, w_imul, w_iand, w_ior, w_ixor, w_ishl, w_ishr, w_iushr, w_idiv, w_irem, w_ineg, w_ladd, w_lsub, w_lmul, w_ldiv, w_lrem, w_lcmp, w_i2l, w_l2i, w_i2b, w_i2s, w_dupi, w_dupr, w_popi, w_popr, w_dup2, w_goto, w_cut, w_switch, sw_nil, sw_cons, w_iald, w_bald, w_zald, w_aald, w_iast, w_bast, w_zast, w_ireturn, w_zr0, w_zr1, w_lreturn, w_areturn, w_vreturn, w_cpy, w_mmax, w_mmin, w_sald, w_slen, sc_nil, sc_i, sc_r, sc_l, tl_s, tl_n, ls1, ls2, lk1, hd0, Int.reduceToNat, Nat.reduceAdd, Nat.reduceLeDiff, Nat.reduceMul, true_and, and_true, w_icmp_eq, w_icmp_ne, w_icmp_lt, w_icmp_ge, w_icmp_gt, w_icmp_le, w_if_eq, w_if_ne, w_if_lt, w_if_ge, w_if_gt, w_if_le, tX7_passOn_0, kX7_passOn_0, tX7_passOn_2, kX7_passOn_2, tX7_passOn_26, kX7_passOn_26, tX7_passOn_28, kX7_passOn_28, tX7_passOn_53, kX7_passOn_53, tX7_passOn_61, kX7_passOn_61, tX7_passOn_114, kX7_passOn_114, tX7_passOn_120, kX7_passOn_120, hX7_passOn_2, hX7_passOn_28, hX7_passOn_61, ci_0, wc_X7_wink, ci_1, ci_4, w_g236, wc_X7_lookOf, ci_14, ci_46, ci_30, ci_2, lg_0, lg_1, lg_2, lg_3, k0, l0, nI_add]
      try simp only [cm_1, cm_1000000, cm_1000001, cm_1000002, cm_1000003, cm_1000010, cm_1000100, lm_1000001, lm_1000002]
      refine exj (by omega) ?_
      rw [e0]
      simp (disch := omega) only [nI_leI]
      refine ⟨fun z => absurd z (by omega), fun _ => exj (by omega) ?_⟩
      rw [e9]
      simp (disch := omega) only [nI_eq]
      have hdt : dth D (k + 1) = if D 9 k = 1 ∧ D 10 k ≤ 1 then dth D k + 1 else dth D k := rfl
      refine ⟨fun z => ?_, fun z => exj (by omega) (exj (by omega) (exj (by omega) ?_))⟩
      · have := nx M1 (by rw [← fdK_s z]; exact h1) hf hq
        rw [hdt, if_neg (fun q => z q.1)] at this
        exact this
      · have b1 := a6 z
        have g3 := h1.a10 hf8 k (D 10 k - 1) (by omega)
        rw [Nat.zero_add] at g3
        have e10' := g3.f (show k < cu (fdK D k) 10 k (D 10 k - 1) 0 0 from hk')
        rw [Nat.zero_add, cu_s] at e10'
        rw [e10, pk_sub b1, e10']
        simp (disch := omega) only [nI_eq, ← zn0]
        refine ⟨fun y => ?_, fun y => exj (by omega) (exj (by omega) ?_)⟩
        · have := nx _ (by rw [← fdK_t z (by omega)]; exact g3) hf.um hq
          rw [hdt, if_neg (by omega)] at this
          exact this
        · have g5 := (g3.a9 hf8 k 2 (by omega)).a7 hf8 k 99 (by omega)
          rw [Nat.zero_add, Nat.zero_add, lkR_99] at g5
          have hz : cu (cu (cu (fdK D k) 10 k (D 10 k - 1)) 9 k 2) 7 k 99 = fdK D (k + 1) := by rw [show D 10 k - 1 = 0 by omega]; exact fdK_d z (by omega)
          rw [hz] at g5
          have := nx _ g5 hf.um.um.um hq
          rw [hdt, if_pos ⟨z, by omega⟩] at this
          exact this
  have loop2 : ∀ m k (M1 : Mm), k + m = C 0 0 → rR M1 a 0 (lkK C k) → (∀ j, j < C 0 0 → M1 242 j = lkR (nl C j)) → frP a M M1 → Runs nX7_passOn (d + 3) Q 28 [some (.ref 232), some (.ref a), some (.int (nI k)), none] [] M1 L := by
    intro m
    induction m with
    | zero =>
      intro k M1 hk h1 hlk hf
      have hkP : k = C 0 0 := by omega
      subst hkP
      have e0 : M1 a 0 = nI (C 0 0) := h1.1 0 (by decide)
      refine wpH_runs oX7_passOn 60 28 oX7_passOn_28 ?_
      simp (disch := omega) only [w_N, w_iconst, w_lcst, w_iload, w_lload, w_aload, m_i_s, m_l_s, m_a_s, w_istore, w_lstore, w_astore, w_iinc, w_iadd, w_isub, w_imul, w_iand, w_ior, w_ixor, w_ishl, w_ishr, w_iushr, w_idiv, w_irem, w_ineg, w_ladd, w_lsub, w_lmul, w_ldiv, w_lrem, w_lcmp, w_i2l, w_l2i, w_i2b, w_i2s, w_dupi, w_dupr, w_popi, w_popr, w_dup2, w_goto, w_cut, w_switch, sw_nil, sw_cons, w_iald, w_bald, w_zald, w_aald, w_iast, w_bast, w_zast, w_ireturn, w_zr0, w_zr1, w_lreturn, w_areturn, w_vreturn, w_cpy, w_mmax, w_mmin, w_sald, w_slen, sc_nil, sc_i, sc_r, sc_l, tl_s, tl_n, ls1, ls2, lk1, hd0, Int.reduceToNat, Nat.reduceAdd, Nat.reduceLeDiff, Nat.reduceMul, true_and, and_true, w_icmp_eq, w_icmp_ne, w_icmp_lt, w_icmp_ge, w_icmp_gt, w_icmp_le, w_if_eq, w_if_ne, w_if_lt, w_if_ge, w_if_gt, w_if_le, tX7_passOn_0, kX7_passOn_0, tX7_passOn_2, kX7_passOn_2, tX7_passOn_26, kX7_passOn_26, tX7_passOn_28, kX7_passOn_28, tX7_passOn_53, kX7_passOn_53, tX7_passOn_61, kX7_passOn_61, tX7_passOn_114, kX7_passOn_114, tX7_passOn_120, kX7_passOn_120, hX7_passOn_2, hX7_passOn_28, hX7_passOn_61, ci_0, wc_X7_wink, ci_1, ci_4, w_g236, wc_X7_lookOf, ci_14, ci_46, ci_30, ci_2, lg_0, lg_1, lg_2, lg_3, k0, l0, nI_add]
      try simp only [cm_1, cm_1000000, cm_1000001, cm_1000002, cm_1000003, cm_1000010, cm_1000100, lm_1000001, lm_1000002]
      refine exj (by omega) ?_
      rw [e0]
      simp (disch := omega) only [nI_leI]
      refine ⟨fun _ => callOk (show d < d + 3 by omega) (z_wink ha h1 (wf_lkK hw _) fun M2 g2 f2 => ?_), fun z => absurd (Nat.le_refl _) z⟩
      simp (disch := omega) only [w_N, w_iconst, w_lcst, w_iload, w_lload, w_aload, m_i_s, m_l_s, m_a_s, w_istore, w_lstore, w_astore, w_iinc, w_iadd, w_isub, w_imul, w_iand, w_ior, w_ixor, w_ishl, w_ishr, w_iushr, w_idiv, w_irem, w_ineg, w_ladd, w_lsub, w_lmul, w_ldiv, w_lrem, w_lcmp, w_i2l, w_l2i, w_i2b, w_i2s, w_dupi, w_dupr, w_popi, w_popr, w_dup2, w_goto, w_cut, w_switch, sw_nil, sw_cons, w_iald, w_bald, w_zald, w_aald, w_iast, w_bast, w_zast, w_ireturn, w_zr0, w_zr1, w_lreturn, w_areturn, w_vreturn, w_cpy, w_mmax, w_mmin, w_sald, w_slen, sc_nil, sc_i, sc_r, sc_l, tl_s, tl_n, ls1, ls2, lk1, hd0, Int.reduceToNat, Nat.reduceAdd, Nat.reduceLeDiff, Nat.reduceMul, true_and, and_true, w_icmp_eq, w_icmp_ne, w_icmp_lt, w_icmp_ge, w_icmp_gt, w_icmp_le, w_if_eq, w_if_ne, w_if_lt, w_if_ge, w_if_gt, w_if_le, tX7_passOn_0, kX7_passOn_0, tX7_passOn_2, kX7_passOn_2, tX7_passOn_26, kX7_passOn_26, tX7_passOn_28, kX7_passOn_28, tX7_passOn_53, kX7_passOn_53, tX7_passOn_61, kX7_passOn_61, tX7_passOn_114, kX7_passOn_114, tX7_passOn_120, kX7_passOn_120, hX7_passOn_2, hX7_passOn_28, hX7_passOn_61, ci_0, wc_X7_wink, ci_1, ci_4, w_g236, wc_X7_lookOf, ci_14, ci_46, ci_30, ci_2, lg_0, lg_1, lg_2, lg_3]
      try simp only [cm_1, cm_1000000, cm_1000001, cm_1000002, cm_1000003, cm_1000010, cm_1000100, lm_1000001, lm_1000002]
      refine loop3 (C 0 0) 0 M2 (wk (lkK C (C 0 0))) none ?_ (wf_wk (wf_lkK hw _)) ?_ (by omega) (by rw [fdK_0]; exact g2) (hf.tr f2.P) hq
      · rw [wk_0 (by decide) (by decide) (by decide) (by decide)]; rfl
      · rw [wk_0 (by decide) (by decide) (by decide) (by decide)]; rfl
    | succ m ih =>
      intro k M1 hk h1 hlk hf
      have e0 : M1 a 0 = nI (C 0 0) := h1.1 0 (by decide)
      refine wpH_runs oX7_passOn 60 28 oX7_passOn_28 ?_
      simp (disch := omega) only [w_N, w_iconst, w_lcst, w_iload, w_lload, w_aload, m_i_s, m_l_s, m_a_s, w_istore, w_lstore, w_astore, w_iinc, w_iadd, w_isub, w_imul, w_iand, w_ior, w_ixor, w_ishl, w_ishr, w_iushr, w_idiv, w_irem, w_ineg, w_ladd, w_lsub, w_lmul, w_ldiv, w_lrem, w_lcmp, w_i2l, w_l2i, w_i2b, w_i2s, w_dupi, w_dupr, w_popi, w_popr, w_dup2, w_goto, w_cut, w_switch, sw_nil, sw_cons, w_iald, w_bald, w_zald, w_aald, w_iast, w_bast, w_zast, w_ireturn, w_zr0, w_zr1, w_lreturn, w_areturn, w_vreturn, w_cpy, w_mmax, w_mmin, w_sald, w_slen, sc_nil, sc_i, sc_r, sc_l, tl_s, tl_n, ls1, ls2, lk1, hd0, Int.reduceToNat, Nat.reduceAdd, Nat.reduceLeDiff, Nat.reduceMul, true_and, and_true, w_icmp_eq, w_icmp_ne, w_icmp_lt, w_icmp_ge, w_icmp_gt, w_icmp_le, w_if_eq, w_if_ne, w_if_lt, w_if_ge, w_if_gt, w_if_le, tX7_passOn_0, kX7_passOn_0, tX7_passOn_2, kX7_passOn_2, tX7_passOn_26, kX7_passOn_26, tX7_passOn_28, kX7_passOn_28, tX7_passOn_53, kX7_passOn_53, tX7_passOn_61, kX7_passOn_61, tX7_passOn_114, kX7_passOn_114, tX7_passOn_120, kX7_passOn_120, hX7_passOn_2, hX7_passOn_28, hX7_passOn_61, ci_0, wc_X7_wink, ci_1, ci_4, w_g236, wc_X7_lookOf, ci_14, ci_46, ci_30, ci_2, lg_0, lg_1, lg_2, lg_3, k0, l0, kl, ll, km, nI_add]
      try simp only [cm_1, cm_1000000, cm_1000001, cm_1000002, cm_1000003, cm_1000010, cm_1000100, lm_1000001, lm_1000002]
      refine exj (by omega) ?_
      rw [e0]
      simp (disch := omega) only [nI_leI]
      refine ⟨fun z => absurd z (by omega), fun _ => exj (by omega) (exj (by omega) ?_)⟩
      rw [hlk k (by omega)]
      have g := h1.a7 hP8 k (nl C k) (by omega)
      rw [Nat.zero_add, lkK_s] at g
      exact ih (k + 1) _ (by omega) g (fun j hj => by rw [um_ne _ _ _ _ hal.symm]; exact hlk j hj) hf.um
  have loop1 : ∀ m k (M1 : Mm), k + m = C 0 0 → rR M1 a 0 C → (∀ j, j < k → M1 242 j = lkR (nl C j)) → frP a M M1 → Runs nX7_passOn (d + 3) Q 2 [some (.ref 232), some (.ref a), some (.int (nI k)), none] [] M1 L := by
    intro m
    induction m with
    | zero =>
      intro k M1 hk h1 hlk hf
      have hkP : k = C 0 0 := by omega
      subst hkP
      have e0 : M1 a 0 = nI (C 0 0) := h1.1 0 (by decide)
      refine wpH_runs oX7_passOn 60 2 oX7_passOn_2 ?_
      simp (disch := omega) only [w_N, w_iconst, w_lcst, w_iload, w_lload, w_aload, m_i_s, m_l_s, m_a_s, w_istore, w_lstore, w_astore, w_iinc, w_iadd, w_isub, w_imul, w_iand, w_ior, w_ixor, w_ishl, w_ishr, w_iushr, w_idiv, w_irem, w_ineg, w_ladd, w_lsub, w_lmul, w_ldiv, w_lrem, w_lcmp, w_i2l, w_l2i, w_i2b, w_i2s, w_dupi, w_dupr, w_popi, w_popr, w_dup2, w_goto, w_cut, w_switch, sw_nil, sw_cons, w_iald, w_bald, w_zald, w_aald, w_iast, w_bast, w_zast, w_ireturn, w_zr0, w_zr1, w_lreturn, w_areturn, w_vreturn, w_cpy, w_mmax, w_mmin, w_sald, w_slen, sc_nil, sc_i, sc_r, sc_l, tl_s, tl_n, ls1, ls2, lk1, hd0, Int.reduceToNat, Nat.reduceAdd, Nat.reduceLeDiff, Nat.reduceMul, true_and, and_true, w_icmp_eq, w_icmp_ne, w_icmp_lt, w_icmp_ge, w_icmp_gt, w_icmp_le, w_if_eq, w_if_ne, w_if_lt, w_if_ge, w_if_gt, w_if_le, tX7_passOn_0, kX7_passOn_0, tX7_passOn_2, kX7_passOn_2, tX7_passOn_26, kX7_passOn_26, tX7_passOn_28, kX7_passOn_28, tX7_passOn_53, kX7_passOn_53, tX7_passOn_61, kX7_passOn_61, tX7_passOn_114, kX7_passOn_114, tX7_passOn_120, kX7_passOn_120, hX7_passOn_2, hX7_passOn_28, hX7_passOn_61, ci_0, wc_X7_wink, ci_1, ci_4, w_g236, wc_X7_lookOf, ci_14, ci_46, ci_30, ci_2, lg_0, lg_1, lg_2, lg_3, k0, l0, nI_add]
      try simp only [cm_1, cm_1000000, cm_1000001, cm_1000002, cm_1000003, cm_1000010, cm_1000100, lm_1000001, lm_1000002]
      refine exj (by omega) ?_
      rw [e0]
      simp (disch := omega) only [nI_leI]
      exact ⟨fun _ => loop2 (C 0 0) 0 M1 (by omega) (by rw [lkK_0]; exact h1) hlk hf, fun z => absurd (Nat.le_refl _) z⟩
    | succ m ih =>
      intro k M1 hk h1 hlk hf
      have e0 : M1 a 0 = nI (C 0 0) := h1.1 0 (by decide)
      refine wpH_runs oX7_passOn 60 2 oX7_passOn_2 ?_
      simp (disch := omega) only [w_N, w_iconst, w_lcst, w_iload, w_lload, w_aload, m_i_s, m_l_s, m_a_s, w_istore, w_lstore, w_astore, w_iinc, w_iadd, w_isub, w_imul, w_iand, w_ior, w_ixor, w_ishl, w_ishr, w_iushr, w_idiv, w_irem, w_ineg, w_ladd, w_lsub, w_lmul, w_ldiv, w_lrem, w_lcmp, w_i2l, w_l2i, w_i2b, w_i2s, w_dupi, w_dupr, w_popi, w_popr, w_dup2, w_goto, w_cut, w_switch, sw_nil, sw_cons, w_iald, w_bald, w_zald, w_aald, w_iast, w_bast, w_zast, w_ireturn, w_zr0, w_zr1, w_lreturn, w_areturn, w_vreturn, w_cpy, w_mmax, w_mmin, w_sald, w_slen, sc_nil, sc_i, sc_r, sc_l, tl_s, tl_n, ls1, ls2, lk1, hd0, Int.reduceToNat, Nat.reduceAdd, Nat.reduceLeDiff, Nat.reduceMul, true_and, and_true, w_icmp_eq, w_icmp_ne, w_icmp_lt, w_icmp_ge, w_icmp_gt, w_icmp_le, w_if_eq, w_if_ne, w_if_lt, w_if_ge, w_if_gt, w_if_le, tX7_passOn_0, kX7_passOn_0, tX7_passOn_2, kX7_passOn_2, tX7_passOn_26, kX7_passOn_26, tX7_passOn_28, kX7_passOn_28, tX7_passOn_53, kX7_passOn_53, tX7_passOn_61, kX7_passOn_61, tX7_passOn_114, kX7_passOn_114, tX7_passOn_120, kX7_passOn_120, hX7_passOn_2, hX7_passOn_28, hX7_passOn_61, ci_0, wc_X7_wink, ci_1, ci_4, w_g236, wc_X7_lookOf, ci_14, ci_46, ci_30, ci_2, lg_0, lg_1, lg_2, lg_3, k0, l0, kl, ll, km, nI_add]
      try simp only [cm_1, cm_1000000, cm_1000001, cm_1000002, cm_1000003, cm_1000010, cm_1000100, lm_1000001, lm_1000002]
      refine exj (by omega) ?_
      rw [e0]
      simp (disch := omega) only [nI_leI]
      refine ⟨fun z => absurd z (by omega), fun _ => callOk (show d + 2 < d + 3 by omega) (z_lookOf ha h1 hw h3 (show k < C 0 0 by omega) ?_)⟩
      simp (disch := omega) only [w_N, w_iconst, w_lcst, w_iload, w_lload, w_aload, m_i_s, m_l_s, m_a_s, w_istore, w_lstore, w_astore, w_iinc, w_iadd, w_isub, w_imul, w_iand, w_ior, w_ixor, w_ishl, w_ishr, w_iushr, w_idiv, w_irem, w_ineg, w_ladd, w_lsub, w_lmul, w_ldiv, w_lrem, w_lcmp, w_i2l, w_l2i, w_i2b, w_i2s, w_dupi, w_dupr, w_popi, w_popr, w_dup2, w_goto, w_cut, w_switch, sw_nil, sw_cons, w_iald, w_bald, w_zald, w_aald, w_iast, w_bast, w_zast, w_ireturn, w_zr0, w_zr1, w_lreturn, w_areturn, w_vreturn, w_cpy, w_mmax, w_mmin, w_sald, w_slen, sc_nil, sc_i, sc_r, sc_l, tl_s, tl_n, ls1, ls2, lk1, hd0, Int.reduceToNat, Nat.reduceAdd, Nat.reduceLeDiff, Nat.reduceMul, true_and, and_true, w_icmp_eq, w_icmp_ne, w_icmp_lt, w_icmp_ge, w_icmp_gt, w_icmp_le, w_if_eq, w_if_ne, w_if_lt, w_if_ge, w_if_gt, w_if_le, tX7_passOn_0, kX7_passOn_0, tX7_passOn_2, kX7_passOn_2, tX7_passOn_26, kX7_passOn_26, tX7_passOn_28, kX7_passOn_28, tX7_passOn_53, kX7_passOn_53, tX7_passOn_61, kX7_passOn_61, tX7_passOn_114, kX7_passOn_114, tX7_passOn_120, kX7_passOn_120, hX7_passOn_2, hX7_passOn_28, hX7_passOn_61, ci_0, wc_X7_wink, ci_1, ci_4, w_g236, wc_X7_lookOf, ci_14, ci_46, ci_30, ci_2, lg_0, lg_1, lg_2, lg_3, k0, l0, kl, ll, km, nI_add]
      try simp only [cm_1, cm_1000000, cm_1000001, cm_1000002, cm_1000003, cm_1000010, cm_1000100, lm_1000001, lm_1000002]
      refine exj (by omega) (ih (k + 1) _ (by omega) (h1.row (um_ne _ _ _ _ hal)) (fun j hj => ?_) hf.ul)
      rw [um_at]
      by_cases q : j = k
      · rw [if_pos q, q]
      · rw [if_neg q]; exact hlk j (by omega)
  exact loop1 (C 0 0) 0 M (by omega) h (fun j hj => absurd hj (by omega)) frP.rf
theorem z_passAll (h : rR M 238 0 C) (hw : wf C) {n : Nat} (hn : n < 10000) (h3 : C 3 0 + n < 100000) (hq : ∀ M', rR M' 238 0 (tkN n C) → frP 238 M M' → Q none M' L) : Good (d + 4) nX7_passAll [.ref 232, .int (nI n)] M L Q := by
  obtain ⟨kl, ll, km⟩ := kd_lk
  refine eX7_passAll _ _ ?_
  simp (disch := omega) only [w_N, w_iconst, w_lcst, w_iload, w_lload, w_aload, m_i_s, m_l_s, m_a_s, w_istore, w_lstore, w_astore, w_iinc, w_iadd, w_isub, w_imul, w_iand, w_ior, w_ixor, w_ishl, w_ishr, w_iushr, w_idiv, w_irem, w_ineg, w_ladd, w_lsub, w_lmul, w_ldiv, w_lrem, w_lcmp, w_i2l, w_l2i, w_i2b, w_i2s, w_dupi, w_dupr, w_popi, w_popr, w_dup2, w_goto, w_cut, w_switch, sw_nil, sw_cons, w_iald, w_bald, w_zald, w_aald, w_iast, w_bast, w_zast, w_ireturn, w_zr0, w_zr1, w_lreturn, w_areturn, w_vreturn, w_cpy, w_mmax, w_mmin, w_sald, w_slen, sc_nil, sc_i, sc_r, sc_l, tl_s, tl_n, ls1, ls2, lk1, hd0, Int.reduceToNat, Nat.reduceAdd, Nat.reduceLeDiff, Nat.reduceMul, true_and, and_true, w_icmp_eq, w_icmp_ne, w_icmp_lt, w_icmp_ge, w_icmp_gt, w_icmp_le, w_if_eq, w_if_ne, w_if_lt, w_if_ge, w_if_gt, w_if_le, tX7_passAll_0, kX7_passAll_0, tX7_passAll_2, kX7_passAll_2, tX7_passAll_22, kX7_passAll_22, hX7_passAll_2, ci_0, w_g231, wc_X7_passOn, ci_1, lg_0, lg_1, lg_2]
  try simp only [cm_1, cm_1000000, cm_1000001, cm_1000002, cm_1000003, cm_1000010, cm_1000100, lm_1000001, lm_1000002]
  have loop : ∀ m k (M1 : Mm), k + m = n → rR M1 238 0 (tkN k C) → frP 238 M M1 → Runs nX7_passAll (d + 4) Q 2 [some (.ref 232), some (.int (nI n)), some (.int (nI k))] [] M1 L := by
    intro m
    induction m with
    | zero =>
      intro k M1 hk h1 hf
      have hkP : k = n := by omega
      subst hkP
      refine wpH_runs oX7_passAll 60 2 oX7_passAll_2 ?_
      simp (disch := omega) only [w_N, w_iconst, w_lcst, w_iload, w_lload, w_aload, m_i_s, m_l_s, m_a_s, w_istore, w_lstore, w_astore, w_iinc, w_iadd, w_isub, w_imul, w_iand, w_ior, w_ixor, w_ishl, w_ishr, w_iushr, w_idiv, w_irem, w_ineg, w_ladd, w_lsub, w_lmul, w_ldiv, w_lrem, w_lcmp, w_i2l, w_l2i, w_i2b, w_i2s, w_dupi, w_dupr, w_popi, w_popr, w_dup2, w_goto, w_cut, w_switch, sw_nil, sw_cons, w_iald, w_bald, w_zald, w_aald, w_iast, w_bast, w_zast, w_ireturn, w_zr0, w_zr1, w_lreturn, w_areturn, w_vreturn, w_cpy, w_mmax, w_mmin, w_sald, w_slen, sc_nil, sc_i, sc_r, sc_l, tl_s, tl_n, ls1, ls2, lk1, hd0, Int.reduceToNat, Nat.reduceAdd, Nat.reduceLeDiff, Nat.reduceMul, true_and, and_true, w_icmp_eq, w_icmp_ne, w_icmp_lt, w_icmp_ge, w_icmp_gt, w_icmp_le, w_if_eq, w_if_ne, w_if_lt, w_if_ge, w_if_gt, w_if_le, tX7_passAll_0, kX7_passAll_0, tX7_passAll_2, kX7_passAll_2, tX7_passAll_22, kX7_passAll_22, hX7_passAll_2, ci_0, w_g231, wc_X7_passOn, ci_1, lg_0, lg_1, lg_2, nI_leI]
      try simp only [cm_1, cm_1000000, cm_1000001, cm_1000002, cm_1000003, cm_1000010, cm_1000100, lm_1000001, lm_1000002]
      exact ⟨fun _ => hq M1 h1 hf, fun z => absurd (Nat.le_refl _) z⟩
    | succ m ih =>
      intro k M1 hk h1 hf
      refine wpH_runs oX7_passAll 60 2 oX7_passAll_2 ?_
      simp (disch := omega) only [w_N, w_iconst, w_lcst, w_iload, w_lload, w_aload, m_i_s, m_l_s, m_a_s, w_istore, w_lstore, w_astore, w_iinc, w_iadd, w_isub, w_imul, w_iand, w_ior, w_ixor, w_ishl, w_ishr, w_iushr, w_idiv, w_irem, w_ineg, w_ladd, w_lsub, w_lmul, w_ldiv, w_lrem, w_lcmp, w_i2l, w_l2i, w_i2b, w_i2s, w_dupi, w_dupr, w_popi, w_popr, w_dup2, w_goto, w_cut, w_switch, sw_nil, sw_cons, w_iald, w_bald, w_zald, w_aald, w_iast, w_bast, w_zast, w_ireturn, w_zr0, w_zr1, w_lreturn, w_areturn, w_vreturn, w_cpy, w_mmax, w_mmin, w_sald, w_slen, sc_nil, sc_i, sc_r, sc_l, tl_s, tl_n, ls1, ls2, lk1, hd0, Int.reduceToNat, Nat.reduceAdd, Nat.reduceLeDiff, Nat.reduceMul, true_and, and_true, w_icmp_eq, w_icmp_ne, w_icmp_lt, w_icmp_ge, w_icmp_gt, w_icmp_le, w_if_eq, w_if_ne, w_if_lt, w_if_ge, w_if_gt, w_if_le, tX7_passAll_0, kX7_passAll_0, tX7_passAll_2, kX7_passAll_2, tX7_passAll_22, kX7_passAll_22, hX7_passAll_2, ci_0, w_g231, wc_X7_passOn, ci_1, lg_0, lg_1, lg_2, nI_leI, km]
      try simp only [cm_1, cm_1000000, cm_1000001, cm_1000002, cm_1000003, cm_1000010, cm_1000100, lm_1000001, lm_1000002]
      refine ⟨fun z => absurd z (by omega), fun _ => callOk (show d + 3 < d + 4 by omega) (z_passOn (Or.inr rfl) h1 (wf_tkN k hw) (by rw [tkN_3]; omega) fun M2 g2 f2 => ?_)⟩
      simp (disch := omega) only [w_N, w_iconst, w_lcst, w_iload, w_lload, w_aload, m_i_s, m_l_s, m_a_s, w_istore, w_lstore, w_astore, w_iinc, w_iadd, w_isub, w_imul, w_iand, w_ior, w_ixor, w_ishl, w_ishr, w_iushr, w_idiv, w_irem, w_ineg, w_ladd, w_lsub, w_lmul, w_ldiv, w_lrem, w_lcmp, w_i2l, w_l2i, w_i2b, w_i2s, w_dupi, w_dupr, w_popi, w_popr, w_dup2, w_goto, w_cut, w_switch, sw_nil, sw_cons, w_iald, w_bald, w_zald, w_aald, w_iast, w_bast, w_zast, w_ireturn, w_zr0, w_zr1, w_lreturn, w_areturn, w_vreturn, w_cpy, w_mmax, w_mmin, w_sald, w_slen, sc_nil, sc_i, sc_r, sc_l, tl_s, tl_n, ls1, ls2, lk1, hd0, Int.reduceToNat, Nat.reduceAdd, Nat.reduceLeDiff, Nat.reduceMul, true_and, and_true, w_icmp_eq, w_icmp_ne, w_icmp_lt, w_icmp_ge, w_icmp_gt, w_icmp_le, w_if_eq, w_if_ne, w_if_lt, w_if_ge, w_if_gt, w_if_le, tX7_passAll_0, kX7_passAll_0, tX7_passAll_2, kX7_passAll_2, tX7_passAll_22, kX7_passAll_22, hX7_passAll_2, ci_0, w_g231, wc_X7_passOn, ci_1, lg_0, lg_1, lg_2, nI_add]
      try simp only [cm_1, cm_1000000, cm_1000001, cm_1000002, cm_1000003, cm_1000010, cm_1000100, lm_1000001, lm_1000002]
      exact ih (k + 1) M2 (by omega) (by rw [tkN_s]; exact g2) (hf.tr f2)
  exact loop n 0 M (by omega) h frP.rf
theorem kd_nt : kd 237 = 9 ∧ ln 237 = 54 ∧ kd 238 = 9 ∧ ln 238 = 54 := by decide +kernel
theorem z_take (h : rR M 237 0 C) (hP : C 0 0 ≤ 8) (hq : ∀ M', rR M' 238 0 C → fr1 238 M M' → Q none M' L) : Good d nX7_take [.ref 232] M L Q := by
  obtain ⟨kl, ll, km⟩ := kd_lk
  obtain ⟨n1, n2, n3, n4⟩ := kd_nt
  refine eX7_take _ ?_
  simp (disch := omega) only [w_N, w_iconst, w_lcst, w_iload, w_lload, w_aload, m_i_s, m_l_s, m_a_s, w_istore, w_lstore, w_astore, w_iinc, w_iadd, w_isub, w_imul, w_iand, w_ior, w_ixor, w_ishl, w_ishr, w_iushr, w_idiv, w_irem, w_ineg, w_ladd, w_lsub, w_lmul, w_ldiv, w_lrem, w_lcmp, w_i2l, w_l2i, w_i2b, w_i2s, w_dupi, w_dupr, w_popi, w_popr, w_dup2, w_goto, w_cut, w_switch, sw_nil, sw_cons, w_iald, w_bald, w_zald, w_aald, w_iast, w_bast, w_zast, w_ireturn, w_zr0, w_zr1, w_lreturn, w_areturn, w_vreturn, w_cpy, w_mmax, w_mmin, w_sald, w_slen, sc_nil, sc_i, sc_r, sc_l, tl_s, tl_n, ls1, ls2, lk1, hd0, Int.reduceToNat, Nat.reduceAdd, Nat.reduceLeDiff, Nat.reduceMul, true_and, and_true, w_icmp_eq, w_icmp_ne, w_icmp_lt, w_icmp_ge, w_icmp_gt, w_icmp_le, w_if_eq, w_if_ne, w_if_lt, w_if_ge, w_if_gt, w_if_le, tX7_take_0, kX7_take_0, tX7_take_2, kX7_take_2, tX7_take_26, kX7_take_26, hX7_take_2, ci_0, ci_54, w_g231, w_g230, ci_1, lg_0, lg_1]
  try simp only [cm_1, cm_1000000, cm_1000001, cm_1000002, cm_1000003, cm_1000010, cm_1000100, lm_1000001, lm_1000002]
  have loop : ∀ m k (M1 : Mm), k + m = 54 → (∀ j, j < k → M1 238 j = M 237 j) → fr1 238 M M1 → Runs nX7_take d Q 2 [some (.ref 232), some (.int (nI k))] [] M1 L := by
    intro m
    induction m with
    | zero =>
      intro k M1 hk h1 hf
      have hkP : k = 54 := by omega
      subst hkP
      refine wpH_runs oX7_take 60 2 oX7_take_2 ?_
      simp (disch := omega) only [w_N, w_iconst, w_lcst, w_iload, w_lload, w_aload, m_i_s, m_l_s, m_a_s, w_istore, w_lstore, w_astore, w_iinc, w_iadd, w_isub, w_imul, w_iand, w_ior, w_ixor, w_ishl, w_ishr, w_iushr, w_idiv, w_irem, w_ineg, w_ladd, w_lsub, w_lmul, w_ldiv, w_lrem, w_lcmp, w_i2l, w_l2i, w_i2b, w_i2s, w_dupi, w_dupr, w_popi, w_popr, w_dup2, w_goto, w_cut, w_switch, sw_nil, sw_cons, w_iald, w_bald, w_zald, w_aald, w_iast, w_bast, w_zast, w_ireturn, w_zr0, w_zr1, w_lreturn, w_areturn, w_vreturn, w_cpy, w_mmax, w_mmin, w_sald, w_slen, sc_nil, sc_i, sc_r, sc_l, tl_s, tl_n, ls1, ls2, lk1, hd0, Int.reduceToNat, Nat.reduceAdd, Nat.reduceLeDiff, Nat.reduceMul, true_and, and_true, w_icmp_eq, w_icmp_ne, w_icmp_lt, w_icmp_ge, w_icmp_gt, w_icmp_le, w_if_eq, w_if_ne, w_if_lt, w_if_ge, w_if_gt, w_if_le, tX7_take_0, kX7_take_0, tX7_take_2, kX7_take_2, tX7_take_26, kX7_take_26, hX7_take_2, ci_0, ci_54, w_g231, w_g230, ci_1, lg_0, lg_1, nI_leI]
      try simp only [cm_1, cm_1000000, cm_1000001, cm_1000002, cm_1000003, cm_1000010, cm_1000100, lm_1000001, lm_1000002]
      refine ⟨fun _ => hq M1 ⟨fun i hi => ?_, fun f g1 g2 j hj => ?_⟩ hf, fun z => absurd trivial z⟩
      · have := po_sc i hi
        rw [h1 _ (by omega)]; exact h.1 i hi
      · have := po_ar f g2 g1
        rw [h1 _ (by omega)]; exact h.2 f g1 g2 j hj
    | succ m ih =>
      intro k M1 hk h1 hf
      refine wpH_runs oX7_take 60 2 oX7_take_2 ?_
      simp (disch := omega) only [w_N, w_iconst, w_lcst, w_iload, w_lload, w_aload, m_i_s, m_l_s, m_a_s, w_istore, w_lstore, w_astore, w_iinc, w_iadd, w_isub, w_imul, w_iand, w_ior, w_ixor, w_ishl, w_ishr, w_iushr, w_idiv, w_irem, w_ineg, w_ladd, w_lsub, w_lmul, w_ldiv, w_lrem, w_lcmp, w_i2l, w_l2i, w_i2b, w_i2s, w_dupi, w_dupr, w_popi, w_popr, w_dup2, w_goto, w_cut, w_switch, sw_nil, sw_cons, w_iald, w_bald, w_zald, w_aald, w_iast, w_bast, w_zast, w_ireturn, w_zr0, w_zr1, w_lreturn, w_areturn, w_vreturn, w_cpy, w_mmax, w_mmin, w_sald, w_slen, sc_nil, sc_i, sc_r, sc_l, tl_s, tl_n, ls1, ls2, lk1, hd0, Int.reduceToNat, Nat.reduceAdd, Nat.reduceLeDiff, Nat.reduceMul, true_and, and_true, w_icmp_eq, w_icmp_ne, w_icmp_lt, w_icmp_ge, w_icmp_gt, w_icmp_le, w_if_eq, w_if_ne, w_if_lt, w_if_ge, w_if_gt, w_if_le, tX7_take_0, kX7_take_0, tX7_take_2, kX7_take_2, tX7_take_26, kX7_take_26, hX7_take_2, ci_0, ci_54, w_g231, w_g230, ci_1, lg_0, lg_1, nI_leI, km, n1, n2, n3, n4]
      try simp only [cm_1, cm_1000000, cm_1000001, cm_1000002, cm_1000003, cm_1000010, cm_1000100, lm_1000001, lm_1000002]
      refine ⟨fun z => absurd z (by omega), fun _ => exj (by omega) (exj (by omega) ?_)⟩
      rw [nI_add]
      refine ih (k + 1) _ (by omega) (fun j hj => ?_) hf.um
      rw [um_at]
      by_cases q : j = k
      · rw [if_pos q, q, hf _ (by decide)]
      · rw [if_neg q]; exact h1 j (by omega)
  exact loop 54 0 M (by omega) (fun j hj => absurd hj (by omega)) fr1.rf
/-- as if p were the murderer -/
def asM (C : Ci) (p : Nat) : Ci := if p = C 1 0 then C else rol C p
theorem wf_asM {C : Ci} (h : wf C) {p : Nat} (hp : p < C 0 0) : wf (asM C p) := by
  unfold asM
  split
  · exact h
  · exact wf_rol h hp
theorem asM_0 {C : Ci} {p : Nat} : asM C p 0 0 = C 0 0 := by unfold asM; split <;> rfl
theorem asM_3 {C : Ci} {p : Nat} : asM C p 3 0 = C 3 0 := by unfold asM; split <;> rfl
theorem z_takeWith (h : rR M 237 0 C) (hP : C 0 0 ≤ 8) (h1 : C 1 0 < 100) {p : Nat} (hp : p < 100) (hq : ∀ M', rR M' 238 0 (asM C p) → fr1 238 M M' → Q none M' L) : Good (d + 1) nX7_takeWith [.ref 232, .int (nI p)] M L Q := by
  obtain ⟨kl, ll, km⟩ := kd_lk
  obtain ⟨n1, n2, n3, n4⟩ := kd_nt
  refine eX7_takeWith _ _ ?_
  simp (disch := omega) only [w_N, w_iconst, w_lcst, w_iload, w_lload, w_aload, m_i_s, m_l_s, m_a_s, w_istore, w_lstore, w_astore, w_iinc, w_iadd, w_isub, w_imul, w_iand, w_ior, w_ixor, w_ishl, w_ishr, w_iushr, w_idiv, w_irem, w_ineg, w_ladd, w_lsub, w_lmul, w_ldiv, w_lrem, w_lcmp, w_i2l, w_l2i, w_i2b, w_i2s, w_dupi, w_dupr, w_popi, w_popr, w_dup2, w_goto, w_cut, w_switch, sw_nil, sw_cons, w_iald, w_bald, w_zald, w_aald, w_iast, w_bast, w_zast, w_ireturn, w_zr0, w_zr1, w_lreturn, w_areturn, w_vreturn, w_cpy, w_mmax, w_mmin, w_sald, w_slen, sc_nil, sc_i, sc_r, sc_l, tl_s, tl_n, ls1, ls2, lk1, hd0, Int.reduceToNat, Nat.reduceAdd, Nat.reduceLeDiff, Nat.reduceMul, true_and, and_true, w_icmp_eq, w_icmp_ne, w_icmp_lt, w_icmp_ge, w_icmp_gt, w_icmp_le, w_if_eq, w_if_ne, w_if_lt, w_if_ge, w_if_gt, w_if_le, tX7_takeWith_0, kX7_takeWith_0, tX7_takeWith_22, kX7_takeWith_22, wc_X7_take, w_g230, ci_1, w_g231, wc_X7_giveRole, lg_0, lg_1, km]
  try simp only [cm_1, cm_1000000, cm_1000001, cm_1000002, cm_1000003, cm_1000010, cm_1000100, lm_1000001, lm_1000002]
  refine callOk (Nat.lt_succ_self d) (z_take h hP fun M1 g1 f1 => ?_)
  have e1 : M1 237 1 = nI (C 1 0) := by rw [f1 _ (by decide)]; exact h.1 1 (by decide)
  simp (disch := omega) only [w_N, w_iconst, w_lcst, w_iload, w_lload, w_aload, m_i_s, m_l_s, m_a_s, w_istore, w_lstore, w_astore, w_iinc, w_iadd, w_isub, w_imul, w_iand, w_ior, w_ixor, w_ishl, w_ishr, w_iushr, w_idiv, w_irem, w_ineg, w_ladd, w_lsub, w_lmul, w_ldiv, w_lrem, w_lcmp, w_i2l, w_l2i, w_i2b, w_i2s, w_dupi, w_dupr, w_popi, w_popr, w_dup2, w_goto, w_cut, w_switch, sw_nil, sw_cons, w_iald, w_bald, w_zald, w_aald, w_iast, w_bast, w_zast, w_ireturn, w_zr0, w_zr1, w_lreturn, w_areturn, w_vreturn, w_cpy, w_mmax, w_mmin, w_sald, w_slen, sc_nil, sc_i, sc_r, sc_l, tl_s, tl_n, ls1, ls2, lk1, hd0, Int.reduceToNat, Nat.reduceAdd, Nat.reduceLeDiff, Nat.reduceMul, true_and, and_true, w_icmp_eq, w_icmp_ne, w_icmp_lt, w_icmp_ge, w_icmp_gt, w_icmp_le, w_if_eq, w_if_ne, w_if_lt, w_if_ge, w_if_gt, w_if_le, tX7_takeWith_0, kX7_takeWith_0, tX7_takeWith_22, kX7_takeWith_22, wc_X7_take, w_g230, ci_1, w_g231, wc_X7_giveRole, lg_0, lg_1, km, n1, n2]
  try simp only [cm_1, cm_1000000, cm_1000001, cm_1000002, cm_1000003, cm_1000010, cm_1000100, lm_1000001, lm_1000002]
  refine exj (by omega) ?_
  rw [e1]
  simp (disch := omega) only [nI_eq]
  unfold asM at hq
  refine ⟨fun z => hq M1 (by rw [if_pos z]; exact g1) f1, fun z => callOk (Nat.lt_succ_self d) (z_giveRole (Or.inr rfl) g1 hP fun M2 g2 f2 => ?_)⟩
  simp (disch := omega) only [w_N, w_iconst, w_lcst, w_iload, w_lload, w_aload, m_i_s, m_l_s, m_a_s, w_istore, w_lstore, w_astore, w_iinc, w_iadd, w_isub, w_imul, w_iand, w_ior, w_ixor, w_ishl, w_ishr, w_iushr, w_idiv, w_irem, w_ineg, w_ladd, w_lsub, w_lmul, w_ldiv, w_lrem, w_lcmp, w_i2l, w_l2i, w_i2b, w_i2s, w_dupi, w_dupr, w_popi, w_popr, w_dup2, w_goto, w_cut, w_switch, sw_nil, sw_cons, w_iald, w_bald, w_zald, w_aald, w_iast, w_bast, w_zast, w_ireturn, w_zr0, w_zr1, w_lreturn, w_areturn, w_vreturn, w_cpy, w_mmax, w_mmin, w_sald, w_slen, sc_nil, sc_i, sc_r, sc_l, tl_s, tl_n, ls1, ls2, lk1, hd0, Int.reduceToNat, Nat.reduceAdd, Nat.reduceLeDiff, Nat.reduceMul, true_and, and_true, w_icmp_eq, w_icmp_ne, w_icmp_lt, w_icmp_ge, w_icmp_gt, w_icmp_le, w_if_eq, w_if_ne, w_if_lt, w_if_ge, w_if_gt, w_if_le, tX7_takeWith_0, kX7_takeWith_0, tX7_takeWith_22, kX7_takeWith_22, wc_X7_take, w_g230, ci_1, w_g231, wc_X7_giveRole, lg_0, lg_1]
  try simp only [cm_1, cm_1000000, cm_1000001, cm_1000002, cm_1000003, cm_1000010, cm_1000100, lm_1000001, lm_1000002]
  exact hq M2 (by rw [if_neg z]; exact g2) (f1.tr f2)
end
