/-! what can be undone -/
def psh (H : Nat × (Nat → Ci)) (C : Ci) : Nat × (Nat → Ci) := if H.1 = 24 then (24, fun i => if i = 23 then C else H.2 (i + 1)) else (H.1 + 1, fun i => if i = H.1 then C else H.2 i)
def frA' (M M' : Mm) : Prop := ∀ x, x < 29 ∨ 198 < x → M' x = M x
theorem rfa_30 {j : Nat} : rfa 30 j = 31 + 7 * j := rfl
theorem rfa_199 {j : Nat} : rfa 199 j = 200 + 7 * j := rfl
theorem rfa_2 {j : Nat} : rfa 2 j = 3 + j := rfl
theorem rC_ne {M M' : Mm} {c e : Nat} {C : Ci} (h : rC M e C) (hf : fr c M M') (hc : isC c) (he : isC e) (hne : c ≠ e) : rC M' e C := h.fr hf (isC_apart c hc e he hne)
theorem mod24 {a b : Nat} (h1 : a < b + 24) (h2 : b < a + 24) (h : a % 24 = b % 24) : a = b := by omega
section
variable {d : Nat} {M : Mm} {L : Ml} {Q : Qt} {C : Ci} {H : Nat × (Nat → Ci)}
theorem x_keep (ha : cAct M H) (hH : H.1 ≤ 24) (h : rC M 15 C) (hw : wf C) (hq : ∀ M', cAct M' (psh H C) → frA' M M' → Q none M' L) : Good (d + 1) nX0_keep [.ref 29, .ref 15] M L Q := by
  obtain ⟨o, ho, a1, a2, a3⟩ := ha
  refine eX0_keep _ _ ?_
  have tail : ∀ (o' n : Nat) (M1 : Mm) (g : Nat → Ci), o' < 24 → n < 24 → M1 29 1 = nI o' → M1 29 2 = nI n → (∀ i, i < n → rC M1 (31 + 7 * ((o' + i) % 24)) (g i)) → rC M1 15 C → frA' M M1 → (∀ M', cAct M' (n + 1, fun i => if i = n then C else g i) → frA' M M' → Q none M' L) → Good d nX2_takeFrom [.ref (31 + 7 * ((o' + n) % 24)), .ref 15] M1 L (fun r M' L' => r = none ∧ Q none (um M' 29 2 (M' 29 2 + nI 1)) L') := by
    intro o' n M1 g ho' hn b1 b2 b3 hc hf hq
    have hm : (o' + n) % 24 < 24 := Nat.mod_lt _ (by decide)
    have hic := isC_bef _ hm
    refine x_takeC hic isC_15 (by omega) hc hw fun M2 g2 f2 => ⟨rfl, ?_⟩
    have e2 : M2 29 2 = nI n := by rw [f2 29 (by omega)]; exact b2
    rw [e2, nI_add]
    refine hq _ ⟨o', ho', ?_, ?_, fun i hi => ?_⟩ (fun x hx => ?_)
    · rw [um_at, if_neg (by decide), f2 29 (by omega)]; exact b1
    · rw [um_at, if_pos rfl]
    · have hi' : i < n + 1 := hi
      have hmi : (o' + i) % 24 < 24 := Nat.mod_lt _ (by decide)
      show rC _ (31 + 7 * ((o' + i) % 24)) (if i = n then C else g i)
      by_cases q : i = n
      · rw [if_pos q, q]
        exact g2.cp fun x _ _ => um_ne _ _ _ _ (by omega)
      · rw [if_neg q]
        have hne : 31 + 7 * ((o' + n) % 24) ≠ 31 + 7 * ((o' + i) % 24) := fun z => q (by have := mod24 (a := o' + n) (b := o' + i) (by omega) (by omega) (by omega); omega)
        exact (rC_ne (b3 i (by omega)) f2 hic (isC_bef _ hmi) hne).cp fun x _ _ => um_ne _ _ _ _ (by omega)
    · rw [um_ne _ _ _ _ (by omega), f2 x (by omega)]
      exact hf x hx
  have hk2 : ∀ j, j < 24 → kd (31 + 7 * j) = 2 := fun j hj => (isC_f _ (isC_bef j hj)).1
  try simp (disch := omega) only [w_N, w_iconst, w_lcst, w_iload, w_lload, w_aload, m_i_s, m_l_s, m_a_s, w_istore, w_lstore, w_astore, w_iinc, w_iadd, w_isub, w_imul, w_iand, w_ior, w_ixor, w_ishl, w_ishr, w_iushr, w_idiv, w_irem, w_ineg, w_ladd, w_lsub, w_lmul, w_ldiv, w_lrem, w_lcmp, w_i2l, w_l2i, w_i2b, w_i2s, w_dupi, w_dupr, w_popi, w_popr, w_dup2, w_goto, w_cut, w_switch, sw_nil, sw_cons, w_iald, w_bald, w_zald, w_aald, w_iast, w_bast, w_zast, w_ireturn, w_zr0, w_zr1, w_lreturn, w_areturn, w_vreturn, w_cpy, w_mmax, w_mmin, w_sald, w_slen, sc_nil, sc_i, sc_r, sc_l, tl_s, tl_n, ls1, ls2, lk1, hd0, Int.reduceToNat, Nat.reduceAdd, Nat.reduceLeDiff, Nat.reduceMul, true_and, and_true, w_icmp_eq, w_icmp_ne, w_icmp_lt, w_icmp_ge, w_icmp_gt, w_icmp_le, w_if_eq, w_if_ne, w_if_lt, w_if_ge, w_if_gt, w_if_le, ki_0, ki_1, ki_2, li_2, ki_3, li_3, ki_4, li_4, ki_5, li_5, ki_6, li_6, ki_7, li_7, ki_8, li_8, ki_9, li_9, ki_10, li_10, ki_11, li_11, ki_12, li_12, ki_13, ki_14, li_14, ki_15, ki_16, li_16, ki_17, li_17, ki_18, li_18, ki_19, li_19, ki_20, li_20, ki_21, li_21, ki_22, ki_23, li_23, ki_24, li_24, ki_25, li_25, ki_26, li_26, ki_27, li_27, ki_28, li_28, ki_29, ki_30, li_30, ki_199, li_199, ki_200, ki_207, ki_214, ki_215, ki_216, li_216, ki_217, li_217, ki_218, li_218, ki_219, li_219, ki_220, li_220, ki_221, li_221, ki_222, ki_223, li_223, ki_224, li_224, ki_225, li_225, ki_226, li_226, ki_227, li_227, ki_228, li_228, ki_229, li_229, ki_230, ki_231, li_231, ki_232, ki_233, li_233, ki_234, li_234, ki_235, li_235, ki_236, li_236, ki_237, li_237, ki_238, li_238, ki_239, li_239, ki_240, li_240, ki_241, li_241, ki_242, li_242, ki_243, li_243, ki_244, li_244, ki_245, li_245, tX0_keep_0, kX0_keep_0, tX0_keep_32, kX0_keep_32, w_g2, ci_24, w_g1, ci_1, w_p1, w_p2, w_g0, wc_X2_takeFrom, lg_0, lg_1, a1, a2, nI_eq, rfa_30, um_at, Nat.reduceEqDiff, reduceIte, nI_add]
  try simp only [cm_1, cm_1000000, cm_1000001, cm_1000002, cm_1000003, cm_1000010, cm_1000100, lm_1000001, lm_1000002]
  refine ⟨fun z => ?_, fun z => ?_⟩
  · have hr : nI (o + H.1) - nI (o + H.1) / nI 24 * nI 24 = nI ((o + H.1) % 24) := pk_rem (by omega) (by decide) (by decide)
    have hm : (o + H.1) % 24 < 24 := Nat.mod_lt _ (by decide)
    simp (disch := omega) only [hr]
    refine ⟨by decide, Or.inl trivial, exj (by omega) ⟨hk2 _ hm, CallOk_mono (callOk (Nat.lt_succ_self d) (tail o H.1 M H.2 ho (by omega) a1 a2 a3 h (fun _ _ => rfl) fun M' h' hf' => hq M' (by unfold psh; rw [if_neg z]; exact h') hf')) fun r M' L' hh => ?_⟩⟩
    obtain ⟨rfl, hh⟩ := hh
    try simp (disch := omega) only [w_N, w_iconst, w_lcst, w_iload, w_lload, w_aload, m_i_s, m_l_s, m_a_s, w_istore, w_lstore, w_astore, w_iinc, w_iadd, w_isub, w_imul, w_iand, w_ior, w_ixor, w_ishl, w_ishr, w_iushr, w_idiv, w_irem, w_ineg, w_ladd, w_lsub, w_lmul, w_ldiv, w_lrem, w_lcmp, w_i2l, w_l2i, w_i2b, w_i2s, w_dupi, w_dupr, w_popi, w_popr, w_dup2, w_goto, w_cut, w_switch, sw_nil, sw_cons, w_iald, w_bald, w_zald, w_aald, w_iast, w_bast, w_zast, w_ireturn, w_zr0, w_zr1, w_lreturn, w_areturn, w_vreturn, w_cpy, w_mmax, w_mmin, w_sald, w_slen, sc_nil, sc_i, sc_r, sc_l, tl_s, tl_n, ls1, ls2, lk1, hd0, Int.reduceToNat, Nat.reduceAdd, Nat.reduceLeDiff, Nat.reduceMul, true_and, and_true, w_icmp_eq, w_icmp_ne, w_icmp_lt, w_icmp_ge, w_icmp_gt, w_icmp_le, w_if_eq, w_if_ne, w_if_lt, w_if_ge, w_if_gt, w_if_le, ki_0, ki_1, ki_2, li_2, ki_3, li_3, ki_4, li_4, ki_5, li_5, ki_6, li_6, ki_7, li_7, ki_8, li_8, ki_9, li_9, ki_10, li_10, ki_11, li_11, ki_12, li_12, ki_13, ki_14, li_14, ki_15, ki_16, li_16, ki_17, li_17, ki_18, li_18, ki_19, li_19, ki_20, li_20, ki_21, li_21, ki_22, ki_23, li_23, ki_24, li_24, ki_25, li_25, ki_26, li_26, ki_27, li_27, ki_28, li_28, ki_29, ki_30, li_30, ki_199, li_199, ki_200, ki_207, ki_214, ki_215, ki_216, li_216, ki_217, li_217, ki_218, li_218, ki_219, li_219, ki_220, li_220, ki_221, li_221, ki_222, ki_223, li_223, ki_224, li_224, ki_225, li_225, ki_226, li_226, ki_227, li_227, ki_228, li_228, ki_229, li_229, ki_230, ki_231, li_231, ki_232, ki_233, li_233, ki_234, li_234, ki_235, li_235, ki_236, li_236, ki_237, li_237, ki_238, li_238, ki_239, li_239, ki_240, li_240, ki_241, li_241, ki_242, li_242, ki_243, li_243, ki_244, li_244, ki_245, li_245, tX0_keep_0, kX0_keep_0, tX0_keep_32, kX0_keep_32, w_g2, ci_24, w_g1, ci_1, w_p1, w_p2, w_g0, wc_X2_takeFrom, lg_0, lg_1]
    try simp only [cm_1, cm_1000000, cm_1000001, cm_1000002, cm_1000003, cm_1000010, cm_1000100, lm_1000001, lm_1000002]
    exact hh
  · have hr : nI (o + 1) - nI (o + 1) / nI 24 * nI 24 = nI ((o + 1) % 24) := pk_rem (by omega) (by decide) (by decide)
    have hm : (o + 1) % 24 < 24 := Nat.mod_lt _ (by decide)
    simp (disch := omega) only [hr, z, pk_sub, nI_add]
    have hr2 : nI ((o + 1) % 24 + (24 - 1)) - nI ((o + 1) % 24 + (24 - 1)) / nI 24 * nI 24 = nI (((o + 1) % 24 + (24 - 1)) % 24) := pk_rem (by omega) (by decide) (by decide)
    simp (disch := omega) only [hr2]
    have hm2 : ((o + 1) % 24 + (24 - 1)) % 24 < 24 := Nat.mod_lt _ (by decide)
    refine ⟨by decide, by decide, Or.inl trivial, exj (by omega) ⟨hk2 _ hm2, CallOk_mono (callOk (Nat.lt_succ_self d) (tail ((o + 1) % 24) 23 _ (fun i => H.2 (i + 1)) hm (by decide) ?_ ?_ (fun i hi => ?_) ?_ (fun x hx => ?_) fun M' h' hf' => hq M' (by unfold psh; rw [if_pos z]; exact h') hf')) fun r M' L' hh => ?_⟩⟩
    · rw [um_at, if_neg (by decide), um_at, if_pos rfl]
    · rw [um_at, if_pos rfl]
    · have := a3 (i + 1) (by omega)
      rw [show ((o + 1) % 24 + i) % 24 = (o + (i + 1)) % 24 by omega]
      exact this.cp fun x _ _ => by rw [um_ne _ _ _ _ (by omega), um_ne _ _ _ _ (by omega)]
    · exact h.cp fun x _ _ => by rw [um_ne _ _ _ _ (by omega), um_ne _ _ _ _ (by omega)]
    · rw [um_ne _ _ _ _ (by omega), um_ne _ _ _ _ (by omega)]
    · obtain ⟨rfl, hh⟩ := hh
      try simp (disch := omega) only [w_N, w_iconst, w_lcst, w_iload, w_lload, w_aload, m_i_s, m_l_s, m_a_s, w_istore, w_lstore, w_astore, w_iinc, w_iadd, w_isub, w_imul, w_iand, w_ior, w_ixor, w_ishl, w_ishr, w_iushr, w_idiv, w_irem, w_ineg, w_ladd, w_lsub, w_lmul, w_ldiv, w_lrem, w_lcmp, w_i2l, w_l2i, w_i2b, w_i2s, w_dupi, w_dupr, w_popi, w_popr, w_dup2, w_goto, w_cut, w_switch, sw_nil, sw_cons, w_iald, w_bald, w_zald, w_aald, w_iast, w_bast, w_zast, w_ireturn, w_zr0, w_zr1, w_lreturn, w_areturn, w_vreturn, w_cpy, w_mmax, w_mmin, w_sald, w_slen, sc_nil, sc_i, sc_r, sc_l, tl_s, tl_n, ls1, ls2, lk1, hd0, Int.reduceToNat, Nat.reduceAdd, Nat.reduceLeDiff, Nat.reduceMul, true_and, and_true, w_icmp_eq, w_icmp_ne, w_icmp_lt, w_icmp_ge, w_icmp_gt, w_icmp_le, w_if_eq, w_if_ne, w_if_lt, w_if_ge, w_if_gt, w_if_le, ki_0, ki_1, ki_2, li_2, ki_3, li_3, ki_4, li_4, ki_5, li_5, ki_6, li_6, ki_7, li_7, ki_8, li_8, ki_9, li_9, ki_10, li_10, ki_11, li_11, ki_12, li_12, ki_13, ki_14, li_14, ki_15, ki_16, li_16, ki_17, li_17, ki_18, li_18, ki_19, li_19, ki_20, li_20, ki_21, li_21, ki_22, ki_23, li_23, ki_24, li_24, ki_25, li_25, ki_26, li_26, ki_27, li_27, ki_28, li_28, ki_29, ki_30, li_30, ki_199, li_199, ki_200, ki_207, ki_214, ki_215, ki_216, li_216, ki_217, li_217, ki_218, li_218, ki_219, li_219, ki_220, li_220, ki_221, li_221, ki_222, ki_223, li_223, ki_224, li_224, ki_225, li_225, ki_226, li_226, ki_227, li_227, ki_228, li_228, ki_229, li_229, ki_230, ki_231, li_231, ki_232, ki_233, li_233, ki_234, li_234, ki_235, li_235, ki_236, li_236, ki_237, li_237, ki_238, li_238, ki_239, li_239, ki_240, li_240, ki_241, li_241, ki_242, li_242, ki_243, li_243, ki_244, li_244, ki_245, li_245, tX0_keep_0, kX0_keep_0, tX0_keep_32, kX0_keep_32, w_g2, ci_24, w_g1, ci_1, w_p1, w_p2, w_g0, wc_X2_takeFrom, lg_0, lg_1]
      try simp only [cm_1, cm_1000000, cm_1000001, cm_1000002, cm_1000003, cm_1000010, cm_1000100, lm_1000001, lm_1000002]
      exact hh
theorem x_takeBack (ha : cAct M H) (hH : 0 < H.1 ∧ H.1 ≤ 24) (hw : wf (H.2 (H.1 - 1))) (hq : ∀ M', cAct M' (H.1 - 1, H.2) → rC M' 15 (H.2 (H.1 - 1)) → (∀ x, x ≠ 29 → x < 15 ∨ 21 < x → M' x = M x) → Q none M' L) : Good (d + 1) nX0_takeBack [.ref 29, .ref 15] M L Q := by
  obtain ⟨o, ho, a1, a2, a3⟩ := ha
  have hk2 : ∀ j, j < 24 → kd (31 + 7 * j) = 2 := fun j hj => (isC_f _ (isC_bef j hj)).1
  refine eX0_takeBack _ _ ?_
  try simp (disch := omega) only [w_N, w_iconst, w_lcst, w_iload, w_lload, w_aload, m_i_s, m_l_s, m_a_s, w_istore, w_lstore, w_astore, w_iinc, w_iadd, w_isub, w_imul, w_iand, w_ior, w_ixor, w_ishl, w_ishr, w_iushr, w_idiv, w_irem, w_ineg, w_ladd, w_lsub, w_lmul, w_ldiv, w_lrem, w_lcmp, w_i2l, w_l2i, w_i2b, w_i2s, w_dupi, w_dupr, w_popi, w_popr, w_dup2, w_goto, w_cut, w_switch, sw_nil, sw_cons, w_iald, w_bald, w_zald, w_aald, w_iast, w_bast, w_zast, w_ireturn, w_zr0, w_zr1, w_lreturn, w_areturn, w_vreturn, w_cpy, w_mmax, w_mmin, w_sald, w_slen, sc_nil, sc_i, sc_r, sc_l, tl_s, tl_n, ls1, ls2, lk1, hd0, Int.reduceToNat, Nat.reduceAdd, Nat.reduceLeDiff, Nat.reduceMul, true_and, and_true, w_icmp_eq, w_icmp_ne, w_icmp_lt, w_icmp_ge, w_icmp_gt, w_icmp_le, w_if_eq, w_if_ne, w_if_lt, w_if_ge, w_if_gt, w_if_le, ki_0, ki_1, ki_2, li_2, ki_3, li_3, ki_4, li_4, ki_5, li_5, ki_6, li_6, ki_7, li_7, ki_8, li_8, ki_9, li_9, ki_10, li_10, ki_11, li_11, ki_12, li_12, ki_13, ki_14, li_14, ki_15, ki_16, li_16, ki_17, li_17, ki_18, li_18, ki_19, li_19, ki_20, li_20, ki_21, li_21, ki_22, ki_23, li_23, ki_24, li_24, ki_25, li_25, ki_26, li_26, ki_27, li_27, ki_28, li_28, ki_29, ki_30, li_30, ki_199, li_199, ki_200, ki_207, ki_214, ki_215, ki_216, li_216, ki_217, li_217, ki_218, li_218, ki_219, li_219, ki_220, li_220, ki_221, li_221, ki_222, ki_223, li_223, ki_224, li_224, ki_225, li_225, ki_226, li_226, ki_227, li_227, ki_228, li_228, ki_229, li_229, ki_230, ki_231, li_231, ki_232, ki_233, li_233, ki_234, li_234, ki_235, li_235, ki_236, li_236, ki_237, li_237, ki_238, li_238, ki_239, li_239, ki_240, li_240, ki_241, li_241, ki_242, li_242, ki_243, li_243, ki_244, li_244, ki_245, li_245, tX0_takeBack_0, kX0_takeBack_0, tX0_takeBack_38, kX0_takeBack_38, w_g2, ci_1, w_p2, w_g0, w_g1, ci_24, wc_X2_takeFrom, lg_0, lg_1, a1, a2, rfa_30, um_at, Nat.reduceEqDiff, reduceIte, nI_add, pk_sub, ← zn0, nI_leI]
  try simp only [cm_1, cm_1000000, cm_1000001, cm_1000002, cm_1000003, cm_1000010, cm_1000100, lm_1000001, lm_1000002]
  refine ⟨fun z => absurd z (by omega), fun _ => ?_⟩
  have hr : nI (o + (H.1 - 1)) - nI (o + (H.1 - 1)) / nI 24 * nI 24 = nI ((o + (H.1 - 1)) % 24) := pk_rem (by omega) (by decide) (by decide)
  have hm : (o + (H.1 - 1)) % 24 < 24 := Nat.mod_lt _ (by decide)
  simp (disch := omega) only [hr]
  have g := (a3 (H.1 - 1) (by omega)).cp (M' := um M 29 2 (nI (H.1 - 1))) fun x _ _ => um_ne _ _ _ _ (by omega)
  refine ⟨by decide, Or.inl trivial, exj (by omega) (callOk (Nat.lt_succ_self d) (x_takeC isC_15 (isC_bef _ hm) (by omega) g hw fun M2 g2 f2 => ?_))⟩
  try simp (disch := omega) only [w_N, w_iconst, w_lcst, w_iload, w_lload, w_aload, m_i_s, m_l_s, m_a_s, w_istore, w_lstore, w_astore, w_iinc, w_iadd, w_isub, w_imul, w_iand, w_ior, w_ixor, w_ishl, w_ishr, w_iushr, w_idiv, w_irem, w_ineg, w_ladd, w_lsub, w_lmul, w_ldiv, w_lrem, w_lcmp, w_i2l, w_l2i, w_i2b, w_i2s, w_dupi, w_dupr, w_popi, w_popr, w_dup2, w_goto, w_cut, w_switch, sw_nil, sw_cons, w_iald, w_bald, w_zald, w_aald, w_iast, w_bast, w_zast, w_ireturn, w_zr0, w_zr1, w_lreturn, w_areturn, w_vreturn, w_cpy, w_mmax, w_mmin, w_sald, w_slen, sc_nil, sc_i, sc_r, sc_l, tl_s, tl_n, ls1, ls2, lk1, hd0, Int.reduceToNat, Nat.reduceAdd, Nat.reduceLeDiff, Nat.reduceMul, true_and, and_true, w_icmp_eq, w_icmp_ne, w_icmp_lt, w_icmp_ge, w_icmp_gt, w_icmp_le, w_if_eq, w_if_ne, w_if_lt, w_if_ge, w_if_gt, w_if_le, ki_0, ki_1, ki_2, li_2, ki_3, li_3, ki_4, li_4, ki_5, li_5, ki_6, li_6, ki_7, li_7, ki_8, li_8, ki_9, li_9, ki_10, li_10, ki_11, li_11, ki_12, li_12, ki_13, ki_14, li_14, ki_15, ki_16, li_16, ki_17, li_17, ki_18, li_18, ki_19, li_19, ki_20, li_20, ki_21, li_21, ki_22, ki_23, li_23, ki_24, li_24, ki_25, li_25, ki_26, li_26, ki_27, li_27, ki_28, li_28, ki_29, ki_30, li_30, ki_199, li_199, ki_200, ki_207, ki_214, ki_215, ki_216, li_216, ki_217, li_217, ki_218, li_218, ki_219, li_219, ki_220, li_220, ki_221, li_221, ki_222, ki_223, li_223, ki_224, li_224, ki_225, li_225, ki_226, li_226, ki_227, li_227, ki_228, li_228, ki_229, li_229, ki_230, ki_231, li_231, ki_232, ki_233, li_233, ki_234, li_234, ki_235, li_235, ki_236, li_236, ki_237, li_237, ki_238, li_238, ki_239, li_239, ki_240, li_240, ki_241, li_241, ki_242, li_242, ki_243, li_243, ki_244, li_244, ki_245, li_245, tX0_takeBack_0, kX0_takeBack_0, tX0_takeBack_38, kX0_takeBack_38, w_g2, ci_1, w_p2, w_g0, w_g1, ci_24, wc_X2_takeFrom, lg_0, lg_1]
  try simp only [cm_1, cm_1000000, cm_1000001, cm_1000002, cm_1000003, cm_1000010, cm_1000100, lm_1000001, lm_1000002]
  refine hq M2 ⟨o, ho, ?_, ?_, fun i hi => ?_⟩ g2 (fun x h1 h2 => ?_)
  · rw [f2 29 (by decide), um_at, if_neg (by decide)]; exact a1
  · rw [f2 29 (by decide), um_at, if_pos rfl]
  · have hi' : i < H.1 - 1 := hi
    have hmi : (o + i) % 24 < 24 := Nat.mod_lt _ (by decide)
    exact rC_ne ((a3 i (by omega)).cp (M' := um M 29 2 (nI (H.1 - 1))) fun x _ _ => um_ne _ _ _ _ (by omega)) f2 isC_15 (isC_bef _ hmi) (by omega)
  · rw [f2 x (by omega), um_ne _ _ _ _ h1]
end
