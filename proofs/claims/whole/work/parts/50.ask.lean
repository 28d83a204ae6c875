/-! what the bodies of asks leave -/
def gAdd (G : Nat × (Nat → Nat)) (v : Nat) : Nat × (Nat → Nat) := (G.1 + 1, fun i => if i = G.1 then v else G.2 i)
def frG (M M' : Mm) : Prop := (∀ x, x ≠ 230 → x ≠ 231 → M' x = M x) ∧ ∀ k, k ≠ 1 → M' 230 k = M 230 k
def frH (M M' : Mm) : Prop := (∀ x, x ≠ 232 → x ≠ 245 → M' x = M x) ∧ ∀ k, k ≠ 23 → M' 232 k = M 232 k
theorem frG.rf {M : Mm} : frG M M := ⟨fun _ _ _ => rfl, fun _ _ => rfl⟩
theorem frH.rf {M : Mm} : frH M M := ⟨fun _ _ _ => rfl, fun _ _ => rfl⟩
theorem frG.tr {M M1 M2 : Mm} (h1 : frG M M1) (h2 : frG M1 M2) : frG M M2 := ⟨fun x a b => (h2.1 x a b).trans (h1.1 x a b), fun k hk => (h2.2 k hk).trans (h1.2 k hk)⟩
theorem frH.tr {M M1 M2 : Mm} (h1 : frH M M1) (h2 : frH M1 M2) : frH M M2 := ⟨fun x a b => (h2.1 x a b).trans (h1.1 x a b), fun k hk => (h2.2 k hk).trans (h1.2 k hk)⟩
section
variable {d : Nat} {M : Mm} {L : Ml} {Q : Qt} {G : Nat × (Nat → Nat)}
theorem x_leave (h : cTrc M G) (hG : G.1 < 16) {v : Nat} (hq : ∀ M', cTrc M' (gAdd G v) → frG M M' → Q none M' L) : Good d nX1_leave [.ref 230, .int (nI v)] M L Q := by
  have e1 := h.1
  refine eX1_leave _ _ ?_
  try simp (disch := omega) only [w_N, w_iconst, w_lcst, w_iload, w_lload, w_aload, m_i_s, m_l_s, m_a_s, w_istore, w_lstore, w_astore, w_iinc, w_iadd, w_isub, w_imul, w_iand, w_ior, w_ixor, w_ishl, w_ishr, w_iushr, w_idiv, w_irem, w_ineg, w_ladd, w_lsub, w_lmul, w_ldiv, w_lrem, w_lcmp, w_i2l, w_l2i, w_i2b, w_i2s, w_dupi, w_dupr, w_popi, w_popr, w_dup2, w_goto, w_cut, w_switch, sw_nil, sw_cons, w_iald, w_bald, w_zald, w_aald, w_iast, w_bast, w_zast, w_ireturn, w_zr0, w_zr1, w_lreturn, w_areturn, w_vreturn, w_cpy, w_mmax, w_mmin, w_sald, w_slen, sc_nil, sc_i, sc_r, sc_l, tl_s, tl_n, ls1, ls2, lk1, hd0, Int.reduceToNat, Nat.reduceAdd, Nat.reduceLeDiff, Nat.reduceMul, true_and, and_true, w_icmp_eq, w_icmp_ne, w_icmp_lt, w_icmp_ge, w_icmp_gt, w_icmp_le, w_if_eq, w_if_ne, w_if_lt, w_if_ge, w_if_gt, w_if_le, ki_0, ki_1, ki_2, li_2, ki_3, li_3, ki_4, li_4, ki_5, li_5, ki_6, li_6, ki_7, li_7, ki_8, li_8, ki_9, li_9, ki_10, li_10, ki_11, li_11, ki_12, li_12, ki_13, ki_14, li_14, ki_15, ki_16, li_16, ki_17, li_17, ki_18, li_18, ki_19, li_19, ki_20, li_20, ki_21, li_21, ki_22, ki_23, li_23, ki_24, li_24, ki_25, li_25, ki_26, li_26, ki_27, li_27, ki_28, li_28, ki_29, ki_30, li_30, ki_199, li_199, ki_200, ki_207, ki_214, ki_215, ki_216, li_216, ki_217, li_217, ki_218, li_218, ki_219, li_219, ki_220, li_220, ki_221, li_221, ki_222, ki_223, li_223, ki_224, li_224, ki_225, li_225, ki_226, li_226, ki_227, li_227, ki_228, li_228, ki_229, li_229, ki_230, ki_231, li_231, ki_232, ki_233, li_233, ki_234, li_234, ki_235, li_235, ki_236, li_236, ki_237, li_237, ki_238, li_238, ki_239, li_239, ki_240, li_240, ki_241, li_241, ki_242, li_242, ki_243, li_243, ki_244, li_244, ki_245, li_245, tX1_leave_0, kX1_leave_0, tX1_leave_29, kX1_leave_29, w_g33, ci_16, w_g32, ci_1, w_p33, lg_0, lg_1, e1, nI_leI]
  try simp only [cm_1, cm_1000000, cm_1000001, cm_1000002, cm_1000003, cm_1000010, cm_1000100, lm_1000001, lm_1000002]
  refine ⟨fun z => absurd z (by omega), fun _ => exj (by omega) ?_⟩
  have e2 : um M 231 G.1 (nI v) 230 1 = nI G.1 := by rw [um_ne _ _ _ _ (by decide)]; exact e1
  rw [e2, nI_add]
  refine hq _ ⟨?_, fun i hi => ?_⟩ ⟨fun x a b => ?_, fun k hk => ?_⟩
  · rw [um_at, if_pos rfl]; rfl
  · have hi' : i < G.1 + 1 := hi
    rw [um_ne _ _ _ _ (by decide), um_at]
    show _ = nI (if i = G.1 then v else G.2 i)
    by_cases q : i = G.1
    · rw [if_pos q, if_pos q]
    · rw [if_neg q, if_neg q]; exact h.2 i (by omega)
  · rw [um_ne _ _ _ _ a, um_ne _ _ _ _ b]
  · rw [um_at, if_neg hk, um_ne _ _ _ _ (by decide)]
theorem z_leave (h : mTrc M G) (hG : G.1 < 16) {v : Nat} (hq : ∀ M', mTrc M' (gAdd G v) → frH M M' → Q none M' L) : Good d nX7_leave [.ref 232, .int (nI v)] M L Q := by
  have e1 := h.1
  refine eX7_leave _ _ ?_
  try simp (disch := omega) only [w_N, w_iconst, w_lcst, w_iload, w_lload, w_aload, m_i_s, m_l_s, m_a_s, w_istore, w_lstore, w_astore, w_iinc, w_iadd, w_isub, w_imul, w_iand, w_ior, w_ixor, w_ishl, w_ishr, w_iushr, w_idiv, w_irem, w_ineg, w_ladd, w_lsub, w_lmul, w_ldiv, w_lrem, w_lcmp, w_i2l, w_l2i, w_i2b, w_i2s, w_dupi, w_dupr, w_popi, w_popr, w_dup2, w_goto, w_cut, w_switch, sw_nil, sw_cons, w_iald, w_bald, w_zald, w_aald, w_iast, w_bast, w_zast, w_ireturn, w_zr0, w_zr1, w_lreturn, w_areturn, w_vreturn, w_cpy, w_mmax, w_mmin, w_sald, w_slen, sc_nil, sc_i, sc_r, sc_l, tl_s, tl_n, ls1, ls2, lk1, hd0, Int.reduceToNat, Nat.reduceAdd, Nat.reduceLeDiff, Nat.reduceMul, true_and, and_true, w_icmp_eq, w_icmp_ne, w_icmp_lt, w_icmp_ge, w_icmp_gt, w_icmp_le, w_if_eq, w_if_ne, w_if_lt, w_if_ge, w_if_gt, w_if_le, ki_0, ki_1, ki_2, li_2, ki_3, li_3, ki_4, li_4, ki_5, li_5, ki_6, li_6, ki_7, li_7, ki_8, li_8, ki_9, li_9, ki_10, li_10, ki_11, li_11, ki_12, li_12, ki_13, ki_14, li_14, ki_15, ki_16, li_16, ki_17, li_17, ki_18, li_18, ki_19, li_19, ki_20, li_20, ki_21, li_21, ki_22, ki_23, li_23, ki_24, li_24, ki_25, li_25, ki_26, li_26, ki_27, li_27, ki_28, li_28, ki_29, ki_30, li_30, ki_199, li_199, ki_200, ki_207, ki_214, ki_215, ki_216, li_216, ki_217, li_217, ki_218, li_218, ki_219, li_219, ki_220, li_220, ki_221, li_221, ki_222, ki_223, li_223, ki_224, li_224, ki_225, li_225, ki_226, li_226, ki_227, li_227, ki_228, li_228, ki_229, li_229, ki_230, ki_231, li_231, ki_232, ki_233, li_233, ki_234, li_234, ki_235, li_235, ki_236, li_236, ki_237, li_237, ki_238, li_238, ki_239, li_239, ki_240, li_240, ki_241, li_241, ki_242, li_242, ki_243, li_243, ki_244, li_244, ki_245, li_245, tX7_leave_0, kX7_leave_0, tX7_leave_29, kX7_leave_29, w_g247, ci_16, w_g246, ci_1, w_p247, lg_0, lg_1, e1, nI_leI]
  try simp only [cm_1, cm_1000000, cm_1000001, cm_1000002, cm_1000003, cm_1000010, cm_1000100, lm_1000001, lm_1000002]
  refine ⟨fun z => absurd z (by omega), fun _ => exj (by omega) ?_⟩
  have e2 : um M 245 G.1 (nI v) 232 23 = nI G.1 := by rw [um_ne _ _ _ _ (by decide)]; exact e1
  rw [e2, nI_add]
  refine hq _ ⟨?_, fun i hi => ?_⟩ ⟨fun x a b => ?_, fun k hk => ?_⟩
  · rw [um_at, if_pos rfl]; rfl
  · have hi' : i < G.1 + 1 := hi
    rw [um_ne _ _ _ _ (by decide), um_at]
    show _ = nI (if i = G.1 then v else G.2 i)
    by_cases q : i = G.1
    · rw [if_pos q, if_pos q]
    · rw [if_neg q, if_neg q]; exact h.2 i (by omega)
  · rw [um_ne _ _ _ _ a, um_ne _ _ _ _ b]
  · rw [um_at, if_neg hk, um_ne _ _ _ _ (by decide)]
end
