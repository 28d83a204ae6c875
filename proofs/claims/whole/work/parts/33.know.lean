theorem rR.mv {M M' : Mm} {a a' o o' : Nat} {C : Ci} (h : rR M a o C) (hP : C 0 0 ≤ 8) (hf : ∀ j, j < 54 → M' a' (o' + j) = M a (o + j)) : rR M' a' o' C := by
  refine ⟨fun k hk => ?_, fun f h1 h2 j hj => ?_⟩
  · have := po_sc k hk
    rw [hf _ (by omega)]; exact h.1 k hk
  · have := po_ar f h2 h1
    rw [Nat.add_assoc, hf _ (by omega), ← Nat.add_assoc]; exact h.2 f h1 h2 j hj
def frK (M M' : Mm) : Prop := (∀ x, x ≠ 239 → x ≠ 232 → M' x = M x) ∧ ∀ k, k ≠ 9 → M' 232 k = M 232 k
section
variable {d : Nat} {M : Mm} {L : Ml} {Q : Qt} {C : Ci} {H : Nat × (Nat → Ci)}
theorem z_know (ha : mAct M H) (hH : H.1 ≤ 24) (hH8 : ∀ i, i < H.1 → H.2 i 0 0 ≤ 8) (h : rR M 237 0 C) (hP : C 0 0 ≤ 8) (hq : ∀ M', mAct M' (psh H C) → frK M M' → Q none M' L) : Good d nX7_know [.ref 232] M L Q := by
  obtain ⟨a1, a2⟩ := ha
  refine eX7_know _ ?_
  have loop2 : ∀ m k (n : Nat) (M0 M1 : Mm) (g : Nat → Ci), k + m = 54 → n < 24 → M0 232 9 = nI n → (∀ i, i < n → rR M0 239 (54 * i) (g i)) → (∀ i, i < n → g i 0 0 ≤ 8) → frK M M0 → (∀ x, x ≠ 239 → M1 x = M0 x) → (∀ j, j < 54 * n → M1 239 j = M0 239 j) → (∀ j, j < k → M1 239 (54 * n + j) = M 237 j) → (∀ M', mAct M' (n + 1, fun i => if i = n then C else g i) → frK M M' → Q none M' L) → Runs nX7_know d Q 51 [some (.ref 232), some (.int (nI k))] [] M1 L := by
    intro m
    induction m with
    | zero =>
      intro k n M0 M1 g hk hn e9 b1 b2 hf c1 c2 c3 hq
      have hk54 : k = 54 := by omega
      subst hk54
      have e9' : M1 232 9 = nI n := by rw [c1 232 (by decide)]; exact e9
      refine wpH_runs oX7_know 60 51 oX7_know_51 ?_
      try simp (disch := omega) only [w_N, w_iconst, w_lcst, w_iload, w_lload, w_aload, m_i_s, m_l_s, m_a_s, w_istore, w_lstore, w_astore, w_iinc, w_iadd, w_isub, w_imul, w_iand, w_ior, w_ixor, w_ishl, w_ishr, w_iushr, w_idiv, w_irem, w_ineg, w_ladd, w_lsub, w_lmul, w_ldiv, w_lrem, w_lcmp, w_i2l, w_l2i, w_i2b, w_i2s, w_dupi, w_dupr, w_popi, w_popr, w_dup2, w_goto, w_cut, w_switch, sw_nil, sw_cons, w_iald, w_bald, w_zald, w_aald, w_iast, w_bast, w_zast, w_ireturn, w_zr0, w_zr1, w_lreturn, w_areturn, w_vreturn, w_cpy, w_mmax, w_mmin, w_sald, w_slen, sc_nil, sc_i, sc_r, sc_l, tl_s, tl_n, ls1, ls2, lk1, hd0, Int.reduceToNat, Nat.reduceAdd, Nat.reduceLeDiff, Nat.reduceMul, true_and, and_true, w_icmp_eq, w_icmp_ne, w_icmp_lt, w_icmp_ge, w_icmp_gt, w_icmp_le, w_if_eq, w_if_ne, w_if_lt, w_if_ge, w_if_gt, w_if_le, ki_0, ki_1, ki_2, li_2, ki_3, li_3, ki_4, li_4, ki_5, li_5, ki_6, li_6, ki_7, li_7, ki_8, li_8, ki_9, li_9, ki_10, li_10, ki_11, li_11, ki_12, li_12, ki_13, ki_14, li_14, ki_15, ki_16, li_16, ki_17, li_17, ki_18, li_18, ki_19, li_19, ki_20, li_20, ki_21, li_21, ki_22, ki_23, li_23, ki_24, li_24, ki_25, li_25, ki_26, li_26, ki_27, li_27, ki_28, li_28, ki_29, ki_30, li_30, ki_199, li_199, ki_200, ki_207, ki_214, ki_215, ki_216, li_216, ki_217, li_217, ki_218, li_218, ki_219, li_219, ki_220, li_220, ki_221, li_221, ki_222, ki_223, li_223, ki_224, li_224, ki_225, li_225, ki_226, li_226, ki_227, li_227, ki_228, li_228, ki_229, li_229, ki_230, ki_231, li_231, ki_232, ki_233, li_233, ki_234, li_234, ki_235, li_235, ki_236, li_236, ki_237, li_237, ki_238, li_238, ki_239, li_239, ki_240, li_240, ki_241, li_241, ki_242, li_242, ki_243, li_243, ki_244, li_244, ki_245, li_245, tX7_know_0, kX7_know_0, tX7_know_11, kX7_know_11, tX7_know_39, kX7_know_39, tX7_know_49, kX7_know_49, tX7_know_51, kX7_know_51, tX7_know_83, kX7_know_83, hX7_know_11, hX7_know_51, w_g233, ci_24, ci_0, ci_1, w_p233, ci_1242, w_g232, ci_54, w_g230, lg_0, lg_1, nI_leI, e9', nI_add]
      try simp only [cm_1, cm_1000000, cm_1000001, cm_1000002, cm_1000003, cm_1000010, cm_1000100, lm_1000001, lm_1000002]
      refine ⟨fun _ => hq _ ⟨?_, fun i hi => ?_⟩ ⟨fun x h1 h2 => ?_, fun k hk => ?_⟩, fun z => absurd trivial z⟩
      · rw [um_at, if_pos rfl]
      · have hi' : i < n + 1 := hi
        show rR _ 239 (54 * i) (if i = n then C else g i)
        by_cases q : i = n
        · rw [if_pos q, q]
          refine h.mv hP fun j hj => ?_
          rw [um_ne _ _ _ _ (by decide), c3 j hj, Nat.zero_add]
        · rw [if_neg q]
          refine (b1 i (by omega)).mv (b2 i (by omega)) fun j hj => ?_
          rw [um_ne _ _ _ _ (by decide), c2 _ (by omega)]
      · rw [um_ne _ _ _ _ h2, c1 x h1]; exact hf.1 x h1 h2
      · rw [um_at, if_neg hk, c1 232 (by decide)]; exact hf.2 k hk
    | succ m ih =>
      intro k n M0 M1 g hk hn e9 b1 b2 hf c1 c2 c3 hq
      have e9' : M1 232 9 = nI n := by rw [c1 232 (by decide)]; exact e9
      refine wpH_runs oX7_know 60 51 oX7_know_51 ?_
      try simp (disch := omega) only [w_N, w_iconst, w_lcst, w_iload, w_lload, w_aload, m_i_s, m_l_s, m_a_s, w_istore, w_lstore, w_astore, w_iinc, w_iadd, w_isub, w_imul, w_iand, w_ior, w_ixor, w_ishl, w_ishr, w_iushr, w_idiv, w_irem, w_ineg, w_ladd, w_lsub, w_lmul, w_ldiv, w_lrem, w_lcmp, w_i2l, w_l2i, w_i2b, w_i2s, w_dupi, w_dupr, w_popi, w_popr, w_dup2, w_goto, w_cut, w_switch, sw_nil, sw_cons, w_iald, w_bald, w_zald, w_aald, w_iast, w_bast, w_zast, w_ireturn, w_zr0, w_zr1, w_lreturn, w_areturn, w_vreturn, w_cpy, w_mmax, w_mmin, w_sald, w_slen, sc_nil, sc_i, sc_r, sc_l, tl_s, tl_n, ls1, ls2, lk1, hd0, Int.reduceToNat, Nat.reduceAdd, Nat.reduceLeDiff, Nat.reduceMul, true_and, and_true, w_icmp_eq, w_icmp_ne, w_icmp_lt, w_icmp_ge, w_icmp_gt, w_icmp_le, w_if_eq, w_if_ne, w_if_lt, w_if_ge, w_if_gt, w_if_le, ki_0, ki_1, ki_2, li_2, ki_3, li_3, ki_4, li_4, ki_5, li_5, ki_6, li_6, ki_7, li_7, ki_8, li_8, ki_9, li_9, ki_10, li_10, ki_11, li_11, ki_12, li_12, ki_13, ki_14, li_14, ki_15, ki_16, li_16, ki_17, li_17, ki_18, li_18, ki_19, li_19, ki_20, li_20, ki_21, li_21, ki_22, ki_23, li_23, ki_24, li_24, ki_25, li_25, ki_26, li_26, ki_27, li_27, ki_28, li_28, ki_29, ki_30, li_30, ki_199, li_199, ki_200, ki_207, ki_214, ki_215, ki_216, li_216, ki_217, li_217, ki_218, li_218, ki_219, li_219, ki_220, li_220, ki_221, li_221, ki_222, ki_223, li_223, ki_224, li_224, ki_225, li_225, ki_226, li_226, ki_227, li_227, ki_228, li_228, ki_229, li_229, ki_230, ki_231, li_231, ki_232, ki_233, li_233, ki_234, li_234, ki_235, li_235, ki_236, li_236, ki_237, li_237, ki_238, li_238, ki_239, li_239, ki_240, li_240, ki_241, li_241, ki_242, li_242, ki_243, li_243, ki_244, li_244, ki_245, li_245, tX7_know_0, kX7_know_0, tX7_know_11, kX7_know_11, tX7_know_39, kX7_know_39, tX7_know_49, kX7_know_49, tX7_know_51, kX7_know_51, tX7_know_83, kX7_know_83, hX7_know_11, hX7_know_51, w_g233, ci_24, ci_0, ci_1, w_p233, ci_1242, w_g232, ci_54, w_g230, lg_0, lg_1, nI_leI, e9', nI_add, pk_mul]
      try simp only [cm_1, cm_1000000, cm_1000001, cm_1000002, cm_1000003, cm_1000010, cm_1000100, lm_1000001, lm_1000002]
      refine ⟨fun z => absurd z (by omega), fun _ => exj (by omega) (exj (by omega) ?_)⟩
      refine ih (k + 1) n M0 _ g (by omega) hn e9 b1 b2 hf (fun x hx => (um_ne _ _ _ _ hx).trans (c1 x hx)) (fun j hj => ?_) (fun j hj => ?_) hq
      · rw [um_at, if_neg (by omega)]; exact c2 j hj
      · rw [um_at]
        by_cases q : j = k
        · rw [if_pos (by omega), q, c1 237 (by decide), hf.1 237 (by decide) (by decide)]
        · rw [if_neg (by omega)]; exact c3 j (by omega)
  have start2 : ∀ (n : Nat) (M0 : Mm) (g : Nat → Ci), n < 24 → M0 232 9 = nI n → (∀ i, i < n → rR M0 239 (54 * i) (g i)) → (∀ i, i < n → g i 0 0 ≤ 8) → frK M M0 → (∀ M', mAct M' (n + 1, fun i => if i = n then C else g i) → frK M M' → Q none M' L) → Runs nX7_know d Q 51 [some (.ref 232), some (.int (nI 0))] [] M0 L := fun n M0 g hn e9 b1 b2 hf hq => loop2 54 0 n M0 M0 g (by omega) hn e9 b1 b2 hf (fun _ _ => rfl) (fun _ _ => rfl) (fun j hj => absurd hj (by omega)) hq
  have loop1 : ∀ m k (M1 : Mm), k + m = 1242 → H.1 = 24 → (∀ x, x ≠ 239 → M1 x = M x) → (∀ j, j < k → M1 239 j = M 239 (54 + j)) → (∀ j, k ≤ j → M1 239 j = M 239 j) → Runs nX7_know d Q 11 [some (.ref 232), some (.int (nI k))] [] M1 L := by
    intro m
    induction m with
    | zero =>
      intro k M1 hk hz c1 c2 c3
      have hk2 : k = 1242 := by omega
      subst hk2
      have e9 : M1 232 9 = nI 24 := by rw [c1 232 (by decide), a1, hz]
      refine wpH_runs oX7_know 60 11 oX7_know_11 ?_
      try simp (disch := omega) only [w_N, w_iconst, w_lcst, w_iload, w_lload, w_aload, m_i_s, m_l_s, m_a_s, w_istore, w_lstore, w_astore, w_iinc, w_iadd, w_isub, w_imul, w_iand, w_ior, w_ixor, w_ishl, w_ishr, w_iushr, w_idiv, w_irem, w_ineg, w_ladd, w_lsub, w_lmul, w_ldiv, w_lrem, w_lcmp, w_i2l, w_l2i, w_i2b, w_i2s, w_dupi, w_dupr, w_popi, w_popr, w_dup2, w_goto, w_cut, w_switch, sw_nil, sw_cons, w_iald, w_bald, w_zald, w_aald, w_iast, w_bast, w_zast, w_ireturn, w_zr0, w_zr1, w_lreturn, w_areturn, w_vreturn, w_cpy, w_mmax, w_mmin, w_sald, w_slen, sc_nil, sc_i, sc_r, sc_l, tl_s, tl_n, ls1, ls2, lk1, hd0, Int.reduceToNat, Nat.reduceAdd, Nat.reduceLeDiff, Nat.reduceMul, true_and, and_true, w_icmp_eq, w_icmp_ne, w_icmp_lt, w_icmp_ge, w_icmp_gt, w_icmp_le, w_if_eq, w_if_ne, w_if_lt, w_if_ge, w_if_gt, w_if_le, ki_0, ki_1, ki_2, li_2, ki_3, li_3, ki_4, li_4, ki_5, li_5, ki_6, li_6, ki_7, li_7, ki_8, li_8, ki_9, li_9, ki_10, li_10, ki_11, li_11, ki_12, li_12, ki_13, ki_14, li_14, ki_15, ki_16, li_16, ki_17, li_17, ki_18, li_18, ki_19, li_19, ki_20, li_20, ki_21, li_21, ki_22, ki_23, li_23, ki_24, li_24, ki_25, li_25, ki_26, li_26, ki_27, li_27, ki_28, li_28, ki_29, ki_30, li_30, ki_199, li_199, ki_200, ki_207, ki_214, ki_215, ki_216, li_216, ki_217, li_217, ki_218, li_218, ki_219, li_219, ki_220, li_220, ki_221, li_221, ki_222, ki_223, li_223, ki_224, li_224, ki_225, li_225, ki_226, li_226, ki_227, li_227, ki_228, li_228, ki_229, li_229, ki_230, ki_231, li_231, ki_232, ki_233, li_233, ki_234, li_234, ki_235, li_235, ki_236, li_236, ki_237, li_237, ki_238, li_238, ki_239, li_239, ki_240, li_240, ki_241, li_241, ki_242, li_242, ki_243, li_243, ki_244, li_244, ki_245, li_245, tX7_know_0, kX7_know_0, tX7_know_11, kX7_know_11, tX7_know_39, kX7_know_39, tX7_know_49, kX7_know_49, tX7_know_51, kX7_know_51, tX7_know_83, kX7_know_83, hX7_know_11, hX7_know_51, w_g233, ci_24, ci_0, ci_1, w_p233, ci_1242, w_g232, ci_54, w_g230, lg_0, lg_1, nI_leI, e9, pk_sub]
      try simp only [cm_1, cm_1000000, cm_1000001, cm_1000002, cm_1000003, cm_1000010, cm_1000100, lm_1000001, lm_1000002]
      refine ⟨fun _ => start2 23 _ (fun i => H.2 (i + 1)) (by decide) (by rw [um_at, if_pos rfl]) (fun i hi => ?_) (fun i hi => hH8 _ (by omega)) ⟨fun x h1 h2 => (um_ne _ _ _ _ h2).trans (c1 x h1), fun k hk => ?_⟩ fun M' h' hf' => hq M' ?_ hf', fun z => absurd trivial z⟩
      · refine (a2 (i + 1) (by omega)).mv (hH8 _ (by omega)) fun j hj => ?_
        rw [um_ne _ _ _ _ (by decide), c2 _ (by omega)]
        congr 1; omega
      · rw [um_at, if_neg hk, c1 232 (by decide)]
      · unfold psh; rw [if_pos hz]; exact h'
    | succ m ih =>
      intro k M1 hk hz c1 c2 c3
      refine wpH_runs oX7_know 60 11 oX7_know_11 ?_
      try simp (disch := omega) only [w_N, w_iconst, w_lcst, w_iload, w_lload, w_aload, m_i_s, m_l_s, m_a_s, w_istore, w_lstore, w_astore, w_iinc, w_iadd, w_isub, w_imul, w_iand, w_ior, w_ixor, w_ishl, w_ishr, w_iushr, w_idiv, w_irem, w_ineg, w_ladd, w_lsub, w_lmul, w_ldiv, w_lrem, w_lcmp, w_i2l, w_l2i, w_i2b, w_i2s, w_dupi, w_dupr, w_popi, w_popr, w_dup2, w_goto, w_cut, w_switch, sw_nil, sw_cons, w_iald, w_bald, w_zald, w_aald, w_iast, w_bast, w_zast, w_ireturn, w_zr0, w_zr1, w_lreturn, w_areturn, w_vreturn, w_cpy, w_mmax, w_mmin, w_sald, w_slen, sc_nil, sc_i, sc_r, sc_l, tl_s, tl_n, ls1, ls2, lk1, hd0, Int.reduceToNat, Nat.reduceAdd, Nat.reduceLeDiff, Nat.reduceMul, true_and, and_true, w_icmp_eq, w_icmp_ne, w_icmp_lt, w_icmp_ge, w_icmp_gt, w_icmp_le, w_if_eq, w_if_ne, w_if_lt, w_if_ge, w_if_gt, w_if_le, ki_0, ki_1, ki_2, li_2, ki_3, li_3, ki_4, li_4, ki_5, li_5, ki_6, li_6, ki_7, li_7, ki_8, li_8, ki_9, li_9, ki_10, li_10, ki_11, li_11, ki_12, li_12, ki_13, ki_14, li_14, ki_15, ki_16, li_16, ki_17, li_17, ki_18, li_18, ki_19, li_19, ki_20, li_20, ki_21, li_21, ki_22, ki_23, li_23, ki_24, li_24, ki_25, li_25, ki_26, li_26, ki_27, li_27, ki_28, li_28, ki_29, ki_30, li_30, ki_199, li_199, ki_200, ki_207, ki_214, ki_215, ki_216, li_216, ki_217, li_217, ki_218, li_218, ki_219, li_219, ki_220, li_220, ki_221, li_221, ki_222, ki_223, li_223, ki_224, li_224, ki_225, li_225, ki_226, li_226, ki_227, li_227, ki_228, li_228, ki_229, li_229, ki_230, ki_231, li_231, ki_232, ki_233, li_233, ki_234, li_234, ki_235, li_235, ki_236, li_236, ki_237, li_237, ki_238, li_238, ki_239, li_239, ki_240, li_240, ki_241, li_241, ki_242, li_242, ki_243, li_243, ki_244, li_244, ki_245, li_245, tX7_know_0, kX7_know_0, tX7_know_11, kX7_know_11, tX7_know_39, kX7_know_39, tX7_know_49, kX7_know_49, tX7_know_51, kX7_know_51, tX7_know_83, kX7_know_83, hX7_know_11, hX7_know_51, w_g233, ci_24, ci_0, ci_1, w_p233, ci_1242, w_g232, ci_54, w_g230, lg_0, lg_1, nI_leI, nI_add]
      try simp only [cm_1, cm_1000000, cm_1000001, cm_1000002, cm_1000003, cm_1000010, cm_1000100, lm_1000001, lm_1000002]
      refine ⟨fun z => absurd z (by omega), fun _ => exj (by omega) (exj (by omega) ?_)⟩
      refine ih (k + 1) _ (by omega) hz (fun x hx => (um_ne _ _ _ _ hx).trans (c1 x hx)) (fun j hj => ?_) (fun j hj => ?_)
      · rw [um_at]
        by_cases q : j = k
        · rw [if_pos q, q, c3 _ (by omega)]
        · rw [if_neg q]; exact c2 j (by omega)
      · rw [um_at, if_neg (by omega)]; exact c3 j (by omega)
  try simp (disch := omega) only [w_N, w_iconst, w_lcst, w_iload, w_lload, w_aload, m_i_s, m_l_s, m_a_s, w_istore, w_lstore, w_astore, w_iinc, w_iadd, w_isub, w_imul, w_iand, w_ior, w_ixor, w_ishl, w_ishr, w_iushr, w_idiv, w_irem, w_ineg, w_ladd, w_lsub, w_lmul, w_ldiv, w_lrem, w_lcmp, w_i2l, w_l2i, w_i2b, w_i2s, w_dupi, w_dupr, w_popi, w_popr, w_dup2, w_goto, w_cut, w_switch, sw_nil, sw_cons, w_iald, w_bald, w_zald, w_aald, w_iast, w_bast, w_zast, w_ireturn, w_zr0, w_zr1, w_lreturn, w_areturn, w_vreturn, w_cpy, w_mmax, w_mmin, w_sald, w_slen, sc_nil, sc_i, sc_r, sc_l, tl_s, tl_n, ls1, ls2, lk1, hd0, Int.reduceToNat, Nat.reduceAdd, Nat.reduceLeDiff, Nat.reduceMul, true_and, and_true, w_icmp_eq, w_icmp_ne, w_icmp_lt, w_icmp_ge, w_icmp_gt, w_icmp_le, w_if_eq, w_if_ne, w_if_lt, w_if_ge, w_if_gt, w_if_le, ki_0, ki_1, ki_2, li_2, ki_3, li_3, ki_4, li_4, ki_5, li_5, ki_6, li_6, ki_7, li_7, ki_8, li_8, ki_9, li_9, ki_10, li_10, ki_11, li_11, ki_12, li_12, ki_13, ki_14, li_14, ki_15, ki_16, li_16, ki_17, li_17, ki_18, li_18, ki_19, li_19, ki_20, li_20, ki_21, li_21, ki_22, ki_23, li_23, ki_24, li_24, ki_25, li_25, ki_26, li_26, ki_27, li_27, ki_28, li_28, ki_29, ki_30, li_30, ki_199, li_199, ki_200, ki_207, ki_214, ki_215, ki_216, li_216, ki_217, li_217, ki_218, li_218, ki_219, li_219, ki_220, li_220, ki_221, li_221, ki_222, ki_223, li_223, ki_224, li_224, ki_225, li_225, ki_226, li_226, ki_227, li_227, ki_228, li_228, ki_229, li_229, ki_230, ki_231, li_231, ki_232, ki_233, li_233, ki_234, li_234, ki_235, li_235, ki_236, li_236, ki_237, li_237, ki_238, li_238, ki_239, li_239, ki_240, li_240, ki_241, li_241, ki_242, li_242, ki_243, li_243, ki_244, li_244, ki_245, li_245, tX7_know_0, kX7_know_0, tX7_know_11, kX7_know_11, tX7_know_39, kX7_know_39, tX7_know_49, kX7_know_49, tX7_know_51, kX7_know_51, tX7_know_83, kX7_know_83, hX7_know_11, hX7_know_51, w_g233, ci_24, ci_0, ci_1, w_p233, ci_1242, w_g232, ci_54, w_g230, lg_0, lg_1, a1, nI_eq]
  try simp only [cm_1, cm_1000000, cm_1000001, cm_1000002, cm_1000003, cm_1000010, cm_1000100, lm_1000001, lm_1000002]
  refine ⟨fun z => start2 H.1 M H.2 (by omega) a1 a2 hH8 ⟨fun _ _ _ => rfl, fun _ _ => rfl⟩ fun M' h' hf' => hq M' (by unfold psh; rw [if_neg z]; exact h') hf', fun z => loop1 1242 0 M (by omega) z (fun _ _ => rfl) (fun j hj => absurd hj (by omega)) (fun _ _ => rfl)⟩
end
/-! the state with another part -/
abbrev setC (S : Sx) (C : Ci) : Sx := (S.1, S.2.1, S.2.2.1, S.2.2.2.1, C, S.2.2.2.2.2)
abbrev setH (S : Sx) (H : Nat × (Nat → Ci)) : Sx := (S.1, S.2.1, S.2.2.1, S.2.2.2.1, S.2.2.2.2.1, H, S.2.2.2.2.2.2)
abbrev setS (S : Sx) (v : Nat) : Sx := (S.1, S.2.1, S.2.2.1, v, S.2.2.2.2)
theorem RC.sH {M M' : Mm} {S : Sx} {H : Nat × (Nat → Ci)} (h : RC M S) (ha : cAct M' H) (hf : frA' M M') : RC M' (setH S H) := by
  obtain ⟨h1, h2, h3, h4, h5, h6, h7, h8⟩ := h
  exact ⟨h1.cp fun x _ _ => hf x (by omega), h2.cp (hf 13 (by decide)) (hf 14 (by decide)), by rw [hf 0 (by decide)]; exact h3, by rw [hf 0 (by decide)]; exact h4, h5.cp fun x _ _ => hf x (by omega), ha, h7.cp fun x _ _ => hf x (by omega), h8.cp (hf 230 (by decide)) (hf 231 (by decide))⟩
theorem RC.sC {M M' : Mm} {S : Sx} {C : Ci} (h : RC M S) (hc : rC M' 15 C) (hf : fr 15 M M') : RC M' (setC S C) := by
  obtain ⟨h1, h2, h3, h4, h5, h6, h7, h8⟩ := h
  exact ⟨h1.cp fun x _ _ => hf x (by omega), h2.cp (hf 13 (by decide)) (hf 14 (by decide)), by rw [hf 0 (by decide)]; exact h3, by rw [hf 0 (by decide)]; exact h4, hc, h6.cp fun x _ _ => hf x (by omega), h7.cp fun x _ _ => hf x (by omega), h8.cp (hf 230 (by decide)) (hf 231 (by decide))⟩
theorem RR.sH {M M' : Mm} {S : Sx} {H : Nat × (Nat → Ci)} (h : RR M S) (ha : mAct M' H) (hf : frK M M') : RR M' (setH S H) := by
  obtain ⟨h1, h2, h3, h4, ⟨h5, h5'⟩, h6, h7, h8⟩ := h
  have f := fun x h => hf.1 x h
  exact ⟨h1.cp (hf.1 _ (by decide) (by decide)) (hf.1 _ (by decide) (by decide)) (hf.1 _ (by decide) (by decide)), h2.cp (hf.2 _ (by decide)) (hf.1 _ (by decide) (by decide)), by rw [hf.2 _ (by decide)]; exact h3, by rw [hf.2 _ (by decide)]; exact h4, ⟨h5.row (hf.1 _ (by decide) (by decide)), by rw [hf.2 _ (by decide)]; exact h5'⟩, ha, h7.cp (hf.1 _ (by decide) (by decide)) (hf.1 _ (by decide) (by decide)), h8.cp (hf.2 _ (by decide)) (hf.1 _ (by decide) (by decide))⟩
theorem RR.sC {M M' : Mm} {S : Sx} {C : Ci} (h : RR M S) (hc : rR M' 237 0 C) (hf : frP 237 M M') (h0 : C 0 0 = sC S 0 0) : RR M' (setC S C) := by
  obtain ⟨h1, h2, h3, h4, ⟨h5, h5'⟩, h6, h7, h8⟩ := h
  have f2 : M' 232 = M 232 := hf 232 (by decide) (by decide)
  refine ⟨h1.cp (hf _ (by decide) (by decide)) (hf _ (by decide) (by decide)) (hf _ (by decide) (by decide)), h2.cp (by rw [f2]) (hf _ (by decide) (by decide)), by rw [f2]; exact h3, by rw [f2]; exact h4, ⟨hc, ?_⟩, h6.cp (by rw [f2]) (hf _ (by decide) (by decide)), h7.cp (hf _ (by decide) (by decide)) (hf _ (by decide) (by decide)), h8.cp (by rw [f2]) (hf _ (by decide) (by decide))⟩
  rw [f2, h5']
  show nI (if _ = 0 then 0 else 1) = nI (if C 0 0 = 0 then 0 else 1)
  rw [h0]
theorem frK.M {M M' : Mm} (h : frK M M') : frM M M' := fun x hx => h.1 x (by omega) (by omega)
theorem frA'.X {M M' : Mm} (h : frA' M M') : frX M M' := fun x hx => h x (by omega)
theorem psh_n {H : Nat × (Nat → Ci)} {C : Ci} (h : H.1 ≤ 24) : (psh H C).1 ≤ 24 := by unfold psh; split <;> (dsimp only; omega)
theorem psh_w {H : Nat × (Nat → Ci)} {C : Ci} (h : H.1 ≤ 24 ∧ ∀ i, i < H.1 → wfT (H.2 i)) (hC : wfT C) : ∀ i, i < (psh H C).1 → wfT ((psh H C).2 i) := by
  unfold psh
  split
  · intro i hi
    dsimp only at hi ⊢
    split
    · exact hC
    · exact h.2 _ (by omega)
  · intro i hi
    dsimp only at hi ⊢
    split
    · exact hC
    · exact h.2 _ (by omega)
/-- an act: the state kept, and another circle -/
theorem ok_act {S : Sx} (hS : okS S) {C : Ci} (h0 : wfT (sC S)) (hC : wfT C) : okS (setC (setH S (psh (sH S) (sC S))) C) := by
  obtain ⟨k1, k2, k3, k4, k5, k6, k7, k8⟩ := hS
  exact ⟨k1, k2, k3, k4, Or.inr hC, ⟨psh_n k6.1, psh_w k6 h0⟩, k7, k8⟩
