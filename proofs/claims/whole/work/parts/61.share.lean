def shS (C : Ci) (n k : Nat) : Nat := smK (fun j => n * C 11 j / alS C) k
def shE (C : Ci) (p k : Nat) : Nat := ctK (fun j => j < p ∧ 0 < C 11 j) k
noncomputable def shR (C : Ci) (p n : Nat) : Int32 := if C 11 p = 0 then nI 0 else if nI n - nI (shS C n (C 0 0)) ≤ nI (shE C p (C 0 0)) then nI (n * C 11 p / alS C) else nI (n * C 11 p / alS C + 1)
theorem subsub (a : Int32) (b c : Nat) : a - nI b - nI c = a - nI (b + c) := by rw [← nI_add, Int32.sub_eq_add_neg, Int32.sub_eq_add_neg, Int32.sub_eq_add_neg, Int32.neg_add, Int32.add_assoc, Int32.sub_eq_add_neg]
theorem sub0 (a : Int32) : a - nI 0 = a := by rw [zn0, Int32.sub_zero]
theorem smK_le (f : Nat → Nat) {b : Nat} : ∀ k, (∀ j, j < k → f j ≤ b) → smK f k ≤ b * k
  | 0, _ => Nat.le_refl _
  | k + 1, h => by
    have ih := smK_le f k fun j hj => h j (by omega)
    have := h k (by omega)
    unfold smK
    rw [Nat.mul_succ]
    omega
theorem smK_ge (f : Nat → Nat) {p : Nat} : ∀ k, p < k → f p ≤ smK f k
  | 0, h => absurd h (by omega)
  | k + 1, h => by
    unfold smK
    by_cases q : p = k
    · subst q; omega
    · have := smK_ge f k (p := p) (by omega); omega
theorem mul99 {n v : Nat} (hn : n ≤ 999) (hv : v ≤ 99) : n * v < 100000 := Nat.lt_of_le_of_lt (Nat.mul_le_mul hn hv) (by decide)
section
variable {d : Nat} {M : Mm} {L : Ml} {Q : Qt} {C : Ci}
theorem x_partOf (h : rC M 15 C) (hw : wf C) {p n : Nat} (hp : p < C 0 0) (hn : n ≤ 999) (hq : Q (some (.int (shR C p n))) M L) : Good (d + 1) nX4_partOf [.ref 214, .ref 15, .int (nI p), .int (nI n)] M L Q := by
  have hP := hw.1
  have e0 : M 15 0 = nI (C 0 0) := h.1 0 (by decide)
  have h11 : ∀ j, j < C 0 0 → C 11 j ≤ 99 := fun j hj => (hw.2.2.2.2.2 j hj).2.2.2.2.2.2.2
  have e11 : ∀ j, j < C 0 0 → M 21 j = nI (C 11 j) := fun j hj => h.w hj
  have hal : alS C ≤ 99 * C 0 0 := smK_le _ _ h11
  have hge : C 11 p ≤ alS C := smK_ge (fun j => C 11 j) _ hp
  have hpp := h11 p hp
  refine eX4_partOf _ _ _ _ ?_
  try simp (disch := omega) only [w_N, w_iconst, w_lcst, w_iload, w_lload, w_aload, m_i_s, m_l_s, m_a_s, w_istore, w_lstore, w_astore, w_iinc, w_iadd, w_isub, w_imul, w_iand, w_ior, w_ixor, w_ishl, w_ishr, w_iushr, w_idiv, w_irem, w_ineg, w_ladd, w_lsub, w_lmul, w_ldiv, w_lrem, w_lcmp, w_i2l, w_l2i, w_i2b, w_i2s, w_dupi, w_dupr, w_popi, w_popr, w_dup2, w_goto, w_cut, w_switch, sw_nil, sw_cons, w_iald, w_bald, w_zald, w_aald, w_iast, w_bast, w_zast, w_ireturn, w_zr0, w_zr1, w_lreturn, w_areturn, w_vreturn, w_cpy, w_mmax, w_mmin, w_sald, w_slen, sc_nil, sc_i, sc_r, sc_l, tl_s, tl_n, ls1, ls2, lk1, hd0, Int.reduceToNat, Nat.reduceAdd, Nat.reduceLeDiff, Nat.reduceMul, true_and, and_true, w_icmp_eq, w_icmp_ne, w_icmp_lt, w_icmp_ge, w_icmp_gt, w_icmp_le, w_if_eq, w_if_ne, w_if_lt, w_if_ge, w_if_gt, w_if_le, ki_0, ki_1, ki_2, li_2, ki_3, li_3, ki_4, li_4, ki_5, li_5, ki_6, li_6, ki_7, li_7, ki_8, li_8, ki_9, li_9, ki_10, li_10, ki_11, li_11, ki_12, li_12, ki_13, ki_14, li_14, ki_15, ki_16, li_16, ki_17, li_17, ki_18, li_18, ki_19, li_19, ki_20, li_20, ki_21, li_21, ki_22, ki_23, li_23, ki_24, li_24, ki_25, li_25, ki_26, li_26, ki_27, li_27, ki_28, li_28, ki_29, ki_30, li_30, ki_199, li_199, ki_200, ki_207, ki_214, ki_215, ki_216, li_216, ki_217, li_217, ki_218, li_218, ki_219, li_219, ki_220, li_220, ki_221, li_221, ki_222, ki_223, li_223, ki_224, li_224, ki_225, li_225, ki_226, li_226, ki_227, li_227, ki_228, li_228, ki_229, li_229, ki_230, ki_231, li_231, ki_232, ki_233, li_233, ki_234, li_234, ki_235, li_235, ki_236, li_236, ki_237, li_237, ki_238, li_238, ki_239, li_239, ki_240, li_240, ki_241, li_241, ki_242, li_242, ki_243, li_243, ki_244, li_244, ki_245, li_245, tX4_partOf_0, kX4_partOf_0, tX4_partOf_20, kX4_partOf_20, tX4_partOf_22, kX4_partOf_22, tX4_partOf_31, kX4_partOf_31, tX4_partOf_76, kX4_partOf_76, tX4_partOf_82, kX4_partOf_82, tX4_partOf_104, kX4_partOf_104, tX4_partOf_105, kX4_partOf_105, hX4_partOf_31, wc_X2_allSaw, w_g75, ci_0, ci_1, w_g64, lg_0, lg_1, lg_2, lg_3, lg_4, lg_5, lg_6, lg_7]
  try simp only [cm_1, cm_1000000, cm_1000001, cm_1000002, cm_1000003, cm_1000010, cm_1000100, lm_1000001, lm_1000002]
  refine callOk (Nat.lt_succ_self d) (x_allSaw isC_15 h hP.2 ?_)
  try simp (disch := omega) only [w_N, w_iconst, w_lcst, w_iload, w_lload, w_aload, m_i_s, m_l_s, m_a_s, w_istore, w_lstore, w_astore, w_iinc, w_iadd, w_isub, w_imul, w_iand, w_ior, w_ixor, w_ishl, w_ishr, w_iushr, w_idiv, w_irem, w_ineg, w_ladd, w_lsub, w_lmul, w_ldiv, w_lrem, w_lcmp, w_i2l, w_l2i, w_i2b, w_i2s, w_dupi, w_dupr, w_popi, w_popr, w_dup2, w_goto, w_cut, w_switch, sw_nil, sw_cons, w_iald, w_bald, w_zald, w_aald, w_iast, w_bast, w_zast, w_ireturn, w_zr0, w_zr1, w_lreturn, w_areturn, w_vreturn, w_cpy, w_mmax, w_mmin, w_sald, w_slen, sc_nil, sc_i, sc_r, sc_l, tl_s, tl_n, ls1, ls2, lk1, hd0, Int.reduceToNat, Nat.reduceAdd, Nat.reduceLeDiff, Nat.reduceMul, true_and, and_true, w_icmp_eq, w_icmp_ne, w_icmp_lt, w_icmp_ge, w_icmp_gt, w_icmp_le, w_if_eq, w_if_ne, w_if_lt, w_if_ge, w_if_gt, w_if_le, ki_0, ki_1, ki_2, li_2, ki_3, li_3, ki_4, li_4, ki_5, li_5, ki_6, li_6, ki_7, li_7, ki_8, li_8, ki_9, li_9, ki_10, li_10, ki_11, li_11, ki_12, li_12, ki_13, ki_14, li_14, ki_15, ki_16, li_16, ki_17, li_17, ki_18, li_18, ki_19, li_19, ki_20, li_20, ki_21, li_21, ki_22, ki_23, li_23, ki_24, li_24, ki_25, li_25, ki_26, li_26, ki_27, li_27, ki_28, li_28, ki_29, ki_30, li_30, ki_199, li_199, ki_200, ki_207, ki_214, ki_215, ki_216, li_216, ki_217, li_217, ki_218, li_218, ki_219, li_219, ki_220, li_220, ki_221, li_221, ki_222, ki_223, li_223, ki_224, li_224, ki_225, li_225, ki_226, li_226, ki_227, li_227, ki_228, li_228, ki_229, li_229, ki_230, ki_231, li_231, ki_232, ki_233, li_233, ki_234, li_234, ki_235, li_235, ki_236, li_236, ki_237, li_237, ki_238, li_238, ki_239, li_239, ki_240, li_240, ki_241, li_241, ki_242, li_242, ki_243, li_243, ki_244, li_244, ki_245, li_245, tX4_partOf_0, kX4_partOf_0, tX4_partOf_20, kX4_partOf_20, tX4_partOf_22, kX4_partOf_22, tX4_partOf_31, kX4_partOf_31, tX4_partOf_76, kX4_partOf_76, tX4_partOf_82, kX4_partOf_82, tX4_partOf_104, kX4_partOf_104, tX4_partOf_105, kX4_partOf_105, hX4_partOf_31, wc_X2_allSaw, w_g75, ci_0, ci_1, w_g64, lg_0, lg_1, lg_2, lg_3, lg_4, lg_5, lg_6, lg_7, ← zn0, nI_leI]
  try simp only [cm_1, cm_1000000, cm_1000001, cm_1000002, cm_1000003, cm_1000010, cm_1000100, lm_1000001, lm_1000002]
  unfold shR at hq
  refine ⟨fun z => ?_, fun z => exj (by omega) ?_⟩
  · rw [if_pos (by omega)] at hq; exact hq
  rw [e11 p hp]
  simp (disch := omega) only [nI_eq]
  refine ⟨fun z2 => ?_, fun z2 => ?_⟩
  · rw [if_neg z2] at hq
    have loop : ∀ m k, k + m = C 0 0 → Runs nX4_partOf (d + 1) Q 31 [some (.ref 214), some (.ref 15), some (.int (nI p)), some (.int (nI n)), some (.int (nI (alS C))), some (.int (nI n - nI (shS C n k))), some (.int (nI (shE C p k))), some (.int (nI k))] [] M L := by
      intro m
      induction m with
      | zero =>
        intro k hk
        have hkP : k = C 0 0 := by omega
        subst hkP
        have hmp := mul99 hn hpp
        have hd1 : n * C 11 p / alS C ≤ n * C 11 p := Nat.div_le_self _ _
        refine wpH_runs oX4_partOf 60 31 oX4_partOf_31 ?_
        try simp (disch := omega) only [w_N, w_iconst, w_lcst, w_iload, w_lload, w_aload, m_i_s, m_l_s, m_a_s, w_istore, w_lstore, w_astore, w_iinc, w_iadd, w_isub, w_imul, w_iand, w_ior, w_ixor, w_ishl, w_ishr, w_iushr, w_idiv, w_irem, w_ineg, w_ladd, w_lsub, w_lmul, w_ldiv, w_lrem, w_lcmp, w_i2l, w_l2i, w_i2b, w_i2s, w_dupi, w_dupr, w_popi, w_popr, w_dup2, w_goto, w_cut, w_switch, sw_nil, sw_cons, w_iald, w_bald, w_zald, w_aald, w_iast, w_bast, w_zast, w_ireturn, w_zr0, w_zr1, w_lreturn, w_areturn, w_vreturn, w_cpy, w_mmax, w_mmin, w_sald, w_slen, sc_nil, sc_i, sc_r, sc_l, tl_s, tl_n, ls1, ls2, lk1, hd0, Int.reduceToNat, Nat.reduceAdd, Nat.reduceLeDiff, Nat.reduceMul, true_and, and_true, w_icmp_eq, w_icmp_ne, w_icmp_lt, w_icmp_ge, w_icmp_gt, w_icmp_le, w_if_eq, w_if_ne, w_if_lt, w_if_ge, w_if_gt, w_if_le, ki_0, ki_1, ki_2, li_2, ki_3, li_3, ki_4, li_4, ki_5, li_5, ki_6, li_6, ki_7, li_7, ki_8, li_8, ki_9, li_9, ki_10, li_10, ki_11, li_11, ki_12, li_12, ki_13, ki_14, li_14, ki_15, ki_16, li_16, ki_17, li_17, ki_18, li_18, ki_19, li_19, ki_20, li_20, ki_21, li_21, ki_22, ki_23, li_23, ki_24, li_24, ki_25, li_25, ki_26, li_26, ki_27, li_27, ki_28, li_28, ki_29, ki_30, li_30, ki_199, li_199, ki_200, ki_207, ki_214, ki_215, ki_216, li_216, ki_217, li_217, ki_218, li_218, ki_219, li_219, ki_220, li_220, ki_221, li_221, ki_222, ki_223, li_223, ki_224, li_224, ki_225, li_225, ki_226, li_226, ki_227, li_227, ki_228, li_228, ki_229, li_229, ki_230, ki_231, li_231, ki_232, ki_233, li_233, ki_234, li_234, ki_235, li_235, ki_236, li_236, ki_237, li_237, ki_238, li_238, ki_239, li_239, ki_240, li_240, ki_241, li_241, ki_242, li_242, ki_243, li_243, ki_244, li_244, ki_245, li_245, tX4_partOf_0, kX4_partOf_0, tX4_partOf_20, kX4_partOf_20, tX4_partOf_22, kX4_partOf_22, tX4_partOf_31, kX4_partOf_31, tX4_partOf_76, kX4_partOf_76, tX4_partOf_82, kX4_partOf_82, tX4_partOf_104, kX4_partOf_104, tX4_partOf_105, kX4_partOf_105, hX4_partOf_31, wc_X2_allSaw, w_g75, ci_0, ci_1, w_g64, lg_0, lg_1, lg_2, lg_3, lg_4, lg_5, lg_6, lg_7, e0, nI_leI]
        try simp only [cm_1, cm_1000000, cm_1000001, cm_1000002, cm_1000003, cm_1000010, cm_1000100, lm_1000001, lm_1000002]
        refine ⟨fun _ => exj (by omega) ?_, fun z => absurd (Nat.le_refl _) z⟩
        rw [e11 p hp]
        simp (disch := omega) only [pk_mul, pk_div, ← zn0, nI_eq, nI_add]
        refine ⟨by omega, fun y => ?_, fun y => ?_⟩
        · rw [if_pos y] at hq; exact hq
        · rw [if_neg y] at hq; exact hq
      | succ m ih =>
        intro k hk
        have hin := ih (k + 1) (by omega)
        have hmk := mul99 hn (h11 k (by omega))
        have h11k := h11 k (by omega)
        refine wpH_runs oX4_partOf 60 31 oX4_partOf_31 ?_
        try simp (disch := omega) only [w_N, w_iconst, w_lcst, w_iload, w_lload, w_aload, m_i_s, m_l_s, m_a_s, w_istore, w_lstore, w_astore, w_iinc, w_iadd, w_isub, w_imul, w_iand, w_ior, w_ixor, w_ishl, w_ishr, w_iushr, w_idiv, w_irem, w_ineg, w_ladd, w_lsub, w_lmul, w_ldiv, w_lrem, w_lcmp, w_i2l, w_l2i, w_i2b, w_i2s, w_dupi, w_dupr, w_popi, w_popr, w_dup2, w_goto, w_cut, w_switch, sw_nil, sw_cons, w_iald, w_bald, w_zald, w_aald, w_iast, w_bast, w_zast, w_ireturn, w_zr0, w_zr1, w_lreturn, w_areturn, w_vreturn, w_cpy, w_mmax, w_mmin, w_sald, w_slen, sc_nil, sc_i, sc_r, sc_l, tl_s, tl_n, ls1, ls2, lk1, hd0, Int.reduceToNat, Nat.reduceAdd, Nat.reduceLeDiff, Nat.reduceMul, true_and, and_true, w_icmp_eq, w_icmp_ne, w_icmp_lt, w_icmp_ge, w_icmp_gt, w_icmp_le, w_if_eq, w_if_ne, w_if_lt, w_if_ge, w_if_gt, w_if_le, ki_0, ki_1, ki_2, li_2, ki_3, li_3, ki_4, li_4, ki_5, li_5, ki_6, li_6, ki_7, li_7, ki_8, li_8, ki_9, li_9, ki_10, li_10, ki_11, li_11, ki_12, li_12, ki_13, ki_14, li_14, ki_15, ki_16, li_16, ki_17, li_17, ki_18, li_18, ki_19, li_19, ki_20, li_20, ki_21, li_21, ki_22, ki_23, li_23, ki_24, li_24, ki_25, li_25, ki_26, li_26, ki_27, li_27, ki_28, li_28, ki_29, ki_30, li_30, ki_199, li_199, ki_200, ki_207, ki_214, ki_215, ki_216, li_216, ki_217, li_217, ki_218, li_218, ki_219, li_219, ki_220, li_220, ki_221, li_221, ki_222, ki_223, li_223, ki_224, li_224, ki_225, li_225, ki_226, li_226, ki_227, li_227, ki_228, li_228, ki_229, li_229, ki_230, ki_231, li_231, ki_232, ki_233, li_233, ki_234, li_234, ki_235, li_235, ki_236, li_236, ki_237, li_237, ki_238, li_238, ki_239, li_239, ki_240, li_240, ki_241, li_241, ki_242, li_242, ki_243, li_243, ki_244, li_244, ki_245, li_245, tX4_partOf_0, kX4_partOf_0, tX4_partOf_20, kX4_partOf_20, tX4_partOf_22, kX4_partOf_22, tX4_partOf_31, kX4_partOf_31, tX4_partOf_76, kX4_partOf_76, tX4_partOf_82, kX4_partOf_82, tX4_partOf_104, kX4_partOf_104, tX4_partOf_105, kX4_partOf_105, hX4_partOf_31, wc_X2_allSaw, w_g75, ci_0, ci_1, w_g64, lg_0, lg_1, lg_2, lg_3, lg_4, lg_5, lg_6, lg_7, e0, nI_leI]
        try simp only [cm_1, cm_1000000, cm_1000001, cm_1000002, cm_1000003, cm_1000010, cm_1000100, lm_1000001, lm_1000002]
        refine ⟨fun z => absurd z (by omega), fun _ => exj (by omega) ?_⟩
        rw [e11 k (by omega)]
        simp (disch := omega) only [pk_mul, pk_div, ← zn0, nI_eq, nI_add, nI_leI, subsub]
        unfold shS smK at hin
        refine ⟨by omega, fun y => ?_, fun y => exj (by omega) ?_⟩
        · have hn' : ¬ (fun j => j < p ∧ 0 < C 11 j) k := fun q => absurd q.1 (by omega)
          unfold shE at hin
          rw [ctK_n hn'] at hin
          exact hin
        · rw [e11 k (by omega)]
          simp (disch := omega) only [nI_leI]
          unfold shE at hin
          refine ⟨fun x => ?_, fun x => ?_⟩
          · have hn' : ¬ (fun j => j < p ∧ 0 < C 11 j) k := fun q => absurd q.2 (by omega)
            rw [ctK_n hn'] at hin
            exact hin
          · have hy' : (fun j => j < p ∧ 0 < C 11 j) k := ⟨by omega, by omega⟩
            rw [ctK_y hy'] at hin
            exact hin
    have := loop (C 0 0) 0 (by omega)
    rw [show shS C n 0 = 0 from rfl, sub0] at this
    exact this
  · rw [if_pos z2] at hq; exact hq
end
section
variable {S : Sx}
theorem b_share (hS : okS S) (p n : Int32) : Both nX6_share nX7_share [.int p, .int n] S := by
  have hP := nP hS
  have bad : (p < 0 ∨ nI (sC S 0 0) ≤ p) ∨ (n < nI 0 ∨ nI 999 < n) → Both nX6_share nX7_share [.int p, .int n] S := by
    intro hbad
    refine ⟨.int c_BAD, S, hS, fun d M L Q h hq => ?_, fun d M L Q h hq => ?_⟩
    · have h5 := h.2.2.2.2.1
      have fin := hq M L h frX.rf
      clear hq hS
      refine eX6_share _ _ _ ?_
      rcases ix_cases p (sC S 0 0) (by omega) with hpb | ⟨pj, hp, ep⟩ <;> rcases bt_cases n 0 999 (by decide) (by decide) with hnb | ⟨nj, hnl, hnu, en⟩
      all_goals (try subst_vars)
      all_goals (repeat' (first | with_reducible exact fin | (with_reducible exact absurd zn0 (by assumption)) | (with_reducible exact absurd n10 (not_not_intro (by assumption))) | (simp (disch := omega) only [w_N, w_iconst, w_lcst, w_iload, w_lload, w_aload, m_i_s, m_l_s, m_a_s, w_istore, w_lstore, w_astore, w_iinc, w_iadd, w_isub, w_imul, w_iand, w_ior, w_ixor, w_ishl, w_ishr, w_iushr, w_idiv, w_irem, w_ineg, w_ladd, w_lsub, w_lmul, w_ldiv, w_lrem, w_lcmp, w_i2l, w_l2i, w_i2b, w_i2s, w_dupi, w_dupr, w_popi, w_popr, w_dup2, w_goto, w_cut, w_switch, sw_nil, sw_cons, w_iald, w_bald, w_zald, w_aald, w_iast, w_bast, w_zast, w_ireturn, w_zr0, w_zr1, w_lreturn, w_areturn, w_vreturn, w_cpy, w_mmax, w_mmin, w_sald, w_slen, sc_nil, sc_i, sc_r, sc_l, tl_s, tl_n, ls1, ls2, lk1, hd0, Int.reduceToNat, Nat.reduceAdd, Nat.reduceLeDiff, Nat.reduceMul, true_and, and_true, w_icmp_eq, w_icmp_ne, w_icmp_lt, w_icmp_ge, w_icmp_gt, w_icmp_le, w_if_eq, w_if_ne, w_if_lt, w_if_ge, w_if_gt, w_if_le, ki_0, ki_1, ki_2, li_2, ki_3, li_3, ki_4, li_4, ki_5, li_5, ki_6, li_6, ki_7, li_7, ki_8, li_8, ki_9, li_9, ki_10, li_10, ki_11, li_11, ki_12, li_12, ki_13, ki_14, li_14, ki_15, ki_16, li_16, ki_17, li_17, ki_18, li_18, ki_19, li_19, ki_20, li_20, ki_21, li_21, ki_22, ki_23, li_23, ki_24, li_24, ki_25, li_25, ki_26, li_26, ki_27, li_27, ki_28, li_28, ki_29, ki_30, li_30, ki_199, li_199, ki_200, ki_207, ki_214, ki_215, ki_216, li_216, ki_217, li_217, ki_218, li_218, ki_219, li_219, ki_220, li_220, ki_221, li_221, ki_222, ki_223, li_223, ki_224, li_224, ki_225, li_225, ki_226, li_226, ki_227, li_227, ki_228, li_228, ki_229, li_229, ki_230, ki_231, li_231, ki_232, ki_233, li_233, ki_234, li_234, ki_235, li_235, ki_236, li_236, ki_237, li_237, ki_238, li_238, ki_239, li_239, ki_240, li_240, ki_241, li_241, ki_242, li_242, ki_243, li_243, ki_244, li_244, ki_245, li_245, tX6_share_0, kX6_share_0, tX6_share_22, kX6_share_22, tX6_share_25, kX6_share_25, w_g194, wc_X2_has, ci_999, w_g198, wc_X4_partOf, lg_0, lg_1, lg_2]) | with_reducible apply And.intro | with_reducible intro _ | (simp only [cm_1, cm_1000000, cm_1000001, cm_1000002, cm_1000003, cm_1000010, cm_1000100, lm_1000001, lm_1000002]) | (with_reducible refine callOk ?_ (x_has_t (d := 0) isC_15 h5 hP ?_ ?_); (focus omega); (focus (assumption))) | (with_reducible refine callOk ?_ (x_has_f (d := 0) isC_15 h5 ?_ ?_); (focus omega); (focus (assumption))) | (exfalso; first | omega | contradiction | (simp (disch := omega) only [Int32.lt_iff_toInt_lt, Int32.le_iff_toInt_le, nI_toInt, i0, nI_ltI, nI_leI, nI_eq, ← zn0, not_true_eq_false, not_false_eq_true, Nat.lt_irrefl] at * <;> omega))))
    · have h5 := h.2.2.2.2.1.1
      have fin := hq M L h frM.rf
      clear hq hS
      refine eX7_share _ _ _ ?_
      rcases ix_cases p (sC S 0 0) (by omega) with hpb | ⟨pj, hp, ep⟩ <;> rcases bt_cases n 0 999 (by decide) (by decide) with hnb | ⟨nj, hnl, hnu, en⟩
      all_goals (try subst_vars)
      all_goals (repeat' (first | with_reducible exact fin | (with_reducible exact absurd zn0 (by assumption)) | (with_reducible exact absurd n10 (not_not_intro (by assumption))) | (simp (disch := omega) only [w_N, w_iconst, w_lcst, w_iload, w_lload, w_aload, m_i_s, m_l_s, m_a_s, w_istore, w_lstore, w_astore, w_iinc, w_iadd, w_isub, w_imul, w_iand, w_ior, w_ixor, w_ishl, w_ishr, w_iushr, w_idiv, w_irem, w_ineg, w_ladd, w_lsub, w_lmul, w_ldiv, w_lrem, w_lcmp, w_i2l, w_l2i, w_i2b, w_i2s, w_dupi, w_dupr, w_popi, w_popr, w_dup2, w_goto, w_cut, w_switch, sw_nil, sw_cons, w_iald, w_bald, w_zald, w_aald, w_iast, w_bast, w_zast, w_ireturn, w_zr0, w_zr1, w_lreturn, w_areturn, w_vreturn, w_cpy, w_mmax, w_mmin, w_sald, w_slen, sc_nil, sc_i, sc_r, sc_l, tl_s, tl_n, ls1, ls2, lk1, hd0, Int.reduceToNat, Nat.reduceAdd, Nat.reduceLeDiff, Nat.reduceMul, true_and, and_true, w_icmp_eq, w_icmp_ne, w_icmp_lt, w_icmp_ge, w_icmp_gt, w_icmp_le, w_if_eq, w_if_ne, w_if_lt, w_if_ge, w_if_gt, w_if_le, ki_0, ki_1, ki_2, li_2, ki_3, li_3, ki_4, li_4, ki_5, li_5, ki_6, li_6, ki_7, li_7, ki_8, li_8, ki_9, li_9, ki_10, li_10, ki_11, li_11, ki_12, li_12, ki_13, ki_14, li_14, ki_15, ki_16, li_16, ki_17, li_17, ki_18, li_18, ki_19, li_19, ki_20, li_20, ki_21, li_21, ki_22, ki_23, li_23, ki_24, li_24, ki_25, li_25, ki_26, li_26, ki_27, li_27, ki_28, li_28, ki_29, ki_30, li_30, ki_199, li_199, ki_200, ki_207, ki_214, ki_215, ki_216, li_216, ki_217, li_217, ki_218, li_218, ki_219, li_219, ki_220, li_220, ki_221, li_221, ki_222, ki_223, li_223, ki_224, li_224, ki_225, li_225, ki_226, li_226, ki_227, li_227, ki_228, li_228, ki_229, li_229, ki_230, ki_231, li_231, ki_232, ki_233, li_233, ki_234, li_234, ki_235, li_235, ki_236, li_236, ki_237, li_237, ki_238, li_238, ki_239, li_239, ki_240, li_240, ki_241, li_241, ki_242, li_242, ki_243, li_243, ki_244, li_244, ki_245, li_245, tX7_share_0, kX7_share_0, tX7_share_19, kX7_share_19, tX7_share_22, kX7_share_22, tX7_share_41, kX7_share_41, tX7_share_50, kX7_share_50, tX7_share_105, kX7_share_105, tX7_share_106, kX7_share_106, tX7_share_115, kX7_share_115, tX7_share_139, kX7_share_139, tX7_share_140, kX7_share_140, hX7_share_50, wc_X7_isPlayer, ci_0, ci_999, wc_X7_in, wc_X7_allSaw, w_g230, ci_38, ci_1, lg_0, lg_1, lg_2, lg_3, lg_4, lg_5, lg_6]) | with_reducible apply And.intro | with_reducible intro _ | (simp only [cm_1, cm_1000000, cm_1000001, cm_1000002, cm_1000003, cm_1000010, cm_1000100, lm_1000001, lm_1000002]) | (with_reducible refine callOk ?_ (z_isPlayer_t (d := 0) h5 hP ?_ ?_); (focus omega); (focus (assumption))) | (with_reducible refine callOk ?_ (z_isPlayer_f (d := 0) h5 hP ?_ ?_); (focus omega); (focus (assumption))) | (with_reducible refine callOk ?_ (z_in_f (d := 0) ?_ ?_); (focus omega); (focus (first | assumption | (exact Or.inl (by assumption)) | (exact Or.inr (by assumption))))) | (with_reducible refine callOk ?_ (z_in_t (d := 0) ?_ ?_ ?_); (focus omega); (focus (simp (disch := omega) only [Int32.lt_iff_toInt_lt, Int32.le_iff_toInt_le, nI_toInt, i0] <;> omega)); (focus (simp (disch := omega) only [Int32.lt_iff_toInt_lt, Int32.le_iff_toInt_le, nI_toInt, i0] <;> omega))) | (exfalso; first | omega | contradiction | (simp (disch := omega) only [Int32.lt_iff_toInt_lt, Int32.le_iff_toInt_le, nI_toInt, i0, nI_ltI, nI_leI, nI_eq, ← zn0, not_true_eq_false, not_false_eq_true, Nat.lt_irrefl] at * <;> omega))))
  rcases ix_cases p (sC S 0 0) (by omega) with hpb | ⟨pj, hp, ep⟩
  · exact bad (Or.inl hpb)
  rcases bt_cases n 0 999 (by decide) (by decide) with hnb | ⟨nj, hnl, hnu, en⟩
  · exact bad (Or.inr (hnb))
  subst ep
  subst en
  obtain ⟨hwf, h3⟩ := okW hS (by omega)
  refine ⟨.int (shR (sC S) pj nj), S, hS, fun d M L Q h hq => ?_, fun d M L Q h hq => ?_⟩
  · have h5 := h.2.2.2.2.1
    have fin : True := trivial
    refine eX6_share _ _ _ ?_
    repeat' (first | with_reducible exact fin | (with_reducible exact absurd zn0 (by assumption)) | (with_reducible exact absurd n10 (not_not_intro (by assumption))) | (simp (disch := omega) only [w_N, w_iconst, w_lcst, w_iload, w_lload, w_aload, m_i_s, m_l_s, m_a_s, w_istore, w_lstore, w_astore, w_iinc, w_iadd, w_isub, w_imul, w_iand, w_ior, w_ixor, w_ishl, w_ishr, w_iushr, w_idiv, w_irem, w_ineg, w_ladd, w_lsub, w_lmul, w_ldiv, w_lrem, w_lcmp, w_i2l, w_l2i, w_i2b, w_i2s, w_dupi, w_dupr, w_popi, w_popr, w_dup2, w_goto, w_cut, w_switch, sw_nil, sw_cons, w_iald, w_bald, w_zald, w_aald, w_iast, w_bast, w_zast, w_ireturn, w_zr0, w_zr1, w_lreturn, w_areturn, w_vreturn, w_cpy, w_mmax, w_mmin, w_sald, w_slen, sc_nil, sc_i, sc_r, sc_l, tl_s, tl_n, ls1, ls2, lk1, hd0, Int.reduceToNat, Nat.reduceAdd, Nat.reduceLeDiff, Nat.reduceMul, true_and, and_true, w_icmp_eq, w_icmp_ne, w_icmp_lt, w_icmp_ge, w_icmp_gt, w_icmp_le, w_if_eq, w_if_ne, w_if_lt, w_if_ge, w_if_gt, w_if_le, ki_0, ki_1, ki_2, li_2, ki_3, li_3, ki_4, li_4, ki_5, li_5, ki_6, li_6, ki_7, li_7, ki_8, li_8, ki_9, li_9, ki_10, li_10, ki_11, li_11, ki_12, li_12, ki_13, ki_14, li_14, ki_15, ki_16, li_16, ki_17, li_17, ki_18, li_18, ki_19, li_19, ki_20, li_20, ki_21, li_21, ki_22, ki_23, li_23, ki_24, li_24, ki_25, li_25, ki_26, li_26, ki_27, li_27, ki_28, li_28, ki_29, ki_30, li_30, ki_199, li_199, ki_200, ki_207, ki_214, ki_215, ki_216, li_216, ki_217, li_217, ki_218, li_218, ki_219, li_219, ki_220, li_220, ki_221, li_221, ki_222, ki_223, li_223, ki_224, li_224, ki_225, li_225, ki_226, li_226, ki_227, li_227, ki_228, li_228, ki_229, li_229, ki_230, ki_231, li_231, ki_232, ki_233, li_233, ki_234, li_234, ki_235, li_235, ki_236, li_236, ki_237, li_237, ki_238, li_238, ki_239, li_239, ki_240, li_240, ki_241, li_241, ki_242, li_242, ki_243, li_243, ki_244, li_244, ki_245, li_245, tX6_share_0, kX6_share_0, tX6_share_22, kX6_share_22, tX6_share_25, kX6_share_25, w_g194, wc_X2_has, ci_999, w_g198, wc_X4_partOf, lg_0, lg_1, lg_2]) | with_reducible apply And.intro | with_reducible intro _ | (simp only [cm_1, cm_1000000, cm_1000001, cm_1000002, cm_1000003, cm_1000010, cm_1000100, lm_1000001, lm_1000002]) | (with_reducible refine callOk ?_ (x_has_t (d := 0) isC_15 h5 hP ?_ ?_); (focus omega); (focus (assumption))) | (with_reducible refine callOk ?_ (x_has_f (d := 0) isC_15 h5 ?_ ?_); (focus omega); (focus (assumption))) | (exfalso; first | omega | contradiction | (simp (disch := omega) only [Int32.lt_iff_toInt_lt, Int32.le_iff_toInt_le, nI_toInt, i0, nI_ltI, nI_leI, nI_eq, ← zn0, not_true_eq_false, not_false_eq_true, Nat.lt_irrefl] at * <;> omega)))
    refine callOk (show 1 < d + 20 by omega) (x_partOf (d := 0) h5 hwf hp (by omega) ?_)
    try simp (disch := omega) only [w_N, w_iconst, w_lcst, w_iload, w_lload, w_aload, m_i_s, m_l_s, m_a_s, w_istore, w_lstore, w_astore, w_iinc, w_iadd, w_isub, w_imul, w_iand, w_ior, w_ixor, w_ishl, w_ishr, w_iushr, w_idiv, w_irem, w_ineg, w_ladd, w_lsub, w_lmul, w_ldiv, w_lrem, w_lcmp, w_i2l, w_l2i, w_i2b, w_i2s, w_dupi, w_dupr, w_popi, w_popr, w_dup2, w_goto, w_cut, w_switch, sw_nil, sw_cons, w_iald, w_bald, w_zald, w_aald, w_iast, w_bast, w_zast, w_ireturn, w_zr0, w_zr1, w_lreturn, w_areturn, w_vreturn, w_cpy, w_mmax, w_mmin, w_sald, w_slen, sc_nil, sc_i, sc_r, sc_l, tl_s, tl_n, ls1, ls2, lk1, hd0, Int.reduceToNat, Nat.reduceAdd, Nat.reduceLeDiff, Nat.reduceMul, true_and, and_true, w_icmp_eq, w_icmp_ne, w_icmp_lt, w_icmp_ge, w_icmp_gt, w_icmp_le, w_if_eq, w_if_ne, w_if_lt, w_if_ge, w_if_gt, w_if_le, ki_0, ki_1, ki_2, li_2, ki_3, li_3, ki_4, li_4, ki_5, li_5, ki_6, li_6, ki_7, li_7, ki_8, li_8, ki_9, li_9, ki_10, li_10, ki_11, li_11, ki_12, li_12, ki_13, ki_14, li_14, ki_15, ki_16, li_16, ki_17, li_17, ki_18, li_18, ki_19, li_19, ki_20, li_20, ki_21, li_21, ki_22, ki_23, li_23, ki_24, li_24, ki_25, li_25, ki_26, li_26, ki_27, li_27, ki_28, li_28, ki_29, ki_30, li_30, ki_199, li_199, ki_200, ki_207, ki_214, ki_215, ki_216, li_216, ki_217, li_217, ki_218, li_218, ki_219, li_219, ki_220, li_220, ki_221, li_221, ki_222, ki_223, li_223, ki_224, li_224, ki_225, li_225, ki_226, li_226, ki_227, li_227, ki_228, li_228, ki_229, li_229, ki_230, ki_231, li_231, ki_232, ki_233, li_233, ki_234, li_234, ki_235, li_235, ki_236, li_236, ki_237, li_237, ki_238, li_238, ki_239, li_239, ki_240, li_240, ki_241, li_241, ki_242, li_242, ki_243, li_243, ki_244, li_244, ki_245, li_245, tX6_share_0, kX6_share_0, tX6_share_22, kX6_share_22, tX6_share_25, kX6_share_25, w_g194, wc_X2_has, ci_999, w_g198, wc_X4_partOf, lg_0, lg_1, lg_2]
    try simp only [cm_1, cm_1000000, cm_1000001, cm_1000002, cm_1000003, cm_1000010, cm_1000100, lm_1000001, lm_1000002]
    exact hq M L h frX.rf
  · have h5 := h.2.2.2.2.1.1
    have fin : True := trivial
    refine eX7_share _ _ _ ?_
    repeat' (first | with_reducible exact fin | (with_reducible exact absurd zn0 (by assumption)) | (with_reducible exact absurd n10 (not_not_intro (by assumption))) | (simp (disch := omega) only [w_N, w_iconst, w_lcst, w_iload, w_lload, w_aload, m_i_s, m_l_s, m_a_s, w_istore, w_lstore, w_astore, w_iinc, w_iadd, w_isub, w_imul, w_iand, w_ior, w_ixor, w_ishl, w_ishr, w_iushr, w_idiv, w_irem, w_ineg, w_ladd, w_lsub, w_lmul, w_ldiv, w_lrem, w_lcmp, w_i2l, w_l2i, w_i2b, w_i2s, w_dupi, w_dupr, w_popi, w_popr, w_dup2, w_goto, w_cut, w_switch, sw_nil, sw_cons, w_iald, w_bald, w_zald, w_aald, w_iast, w_bast, w_zast, w_ireturn, w_zr0, w_zr1, w_lreturn, w_areturn, w_vreturn, w_cpy, w_mmax, w_mmin, w_sald, w_slen, sc_nil, sc_i, sc_r, sc_l, tl_s, tl_n, ls1, ls2, lk1, hd0, Int.reduceToNat, Nat.reduceAdd, Nat.reduceLeDiff, Nat.reduceMul, true_and, and_true, w_icmp_eq, w_icmp_ne, w_icmp_lt, w_icmp_ge, w_icmp_gt, w_icmp_le, w_if_eq, w_if_ne, w_if_lt, w_if_ge, w_if_gt, w_if_le, ki_0, ki_1, ki_2, li_2, ki_3, li_3, ki_4, li_4, ki_5, li_5, ki_6, li_6, ki_7, li_7, ki_8, li_8, ki_9, li_9, ki_10, li_10, ki_11, li_11, ki_12, li_12, ki_13, ki_14, li_14, ki_15, ki_16, li_16, ki_17, li_17, ki_18, li_18, ki_19, li_19, ki_20, li_20, ki_21, li_21, ki_22, ki_23, li_23, ki_24, li_24, ki_25, li_25, ki_26, li_26, ki_27, li_27, ki_28, li_28, ki_29, ki_30, li_30, ki_199, li_199, ki_200, ki_207, ki_214, ki_215, ki_216, li_216, ki_217, li_217, ki_218, li_218, ki_219, li_219, ki_220, li_220, ki_221, li_221, ki_222, ki_223, li_223, ki_224, li_224, ki_225, li_225, ki_226, li_226, ki_227, li_227, ki_228, li_228, ki_229, li_229, ki_230, ki_231, li_231, ki_232, ki_233, li_233, ki_234, li_234, ki_235, li_235, ki_236, li_236, ki_237, li_237, ki_238, li_238, ki_239, li_239, ki_240, li_240, ki_241, li_241, ki_242, li_242, ki_243, li_243, ki_244, li_244, ki_245, li_245, tX7_share_0, kX7_share_0, tX7_share_19, kX7_share_19, tX7_share_22, kX7_share_22, tX7_share_41, kX7_share_41, tX7_share_50, kX7_share_50, tX7_share_105, kX7_share_105, tX7_share_106, kX7_share_106, tX7_share_115, kX7_share_115, tX7_share_139, kX7_share_139, tX7_share_140, kX7_share_140, hX7_share_50, wc_X7_isPlayer, ci_0, ci_999, wc_X7_in, wc_X7_allSaw, w_g230, ci_38, ci_1, lg_0, lg_1, lg_2, lg_3, lg_4, lg_5, lg_6]) | with_reducible apply And.intro | with_reducible intro _ | (simp only [cm_1, cm_1000000, cm_1000001, cm_1000002, cm_1000003, cm_1000010, cm_1000100, lm_1000001, lm_1000002]) | (with_reducible refine callOk ?_ (z_isPlayer_t (d := 0) h5 hP ?_ ?_); (focus omega); (focus (assumption))) | (with_reducible refine callOk ?_ (z_isPlayer_f (d := 0) h5 hP ?_ ?_); (focus omega); (focus (assumption))) | (with_reducible refine callOk ?_ (z_in_f (d := 0) ?_ ?_); (focus omega); (focus (first | assumption | (exact Or.inl (by assumption)) | (exact Or.inr (by assumption))))) | (with_reducible refine callOk ?_ (z_in_t (d := 0) ?_ ?_ ?_); (focus omega); (focus (simp (disch := omega) only [Int32.lt_iff_toInt_lt, Int32.le_iff_toInt_le, nI_toInt, i0] <;> omega)); (focus (simp (disch := omega) only [Int32.lt_iff_toInt_lt, Int32.le_iff_toInt_le, nI_toInt, i0] <;> omega))) | (exfalso; first | omega | contradiction | (simp (disch := omega) only [Int32.lt_iff_toInt_lt, Int32.le_iff_toInt_le, nI_toInt, i0, nI_ltI, nI_leI, nI_eq, ← zn0, not_true_eq_false, not_false_eq_true, Nat.lt_irrefl] at * <;> omega)))
    have e0 : M 237 0 = nI (sC S 0 0) := h5.1 0 (by decide)
    have h11 : ∀ j, j < sC S 0 0 → sC S 11 j ≤ 99 := fun j hj => (hwf.2.2.2.2.2 j hj).2.2.2.2.2.2.2
    have e11 : ∀ j, j < sC S 0 0 → M 237 (38 + j) = nI (sC S 11 j) := fun j hj => by have := h5.w hj; rw [Nat.zero_add] at this; exact this
    have hal : alS (sC S) ≤ 99 * sC S 0 0 := smK_le _ _ h11
    have hge : sC S 11 pj ≤ alS (sC S) := smK_ge (fun j => sC S 11 j) _ hp
    have hpp := h11 pj hp
    have fin2 := hq M L h frM.rf
    clear hq
    refine callOk (show 0 < d + 20 by omega) (z_allSaw h5 hP ?_)
    try simp (disch := omega) only [w_N, w_iconst, w_lcst, w_iload, w_lload, w_aload, m_i_s, m_l_s, m_a_s, w_istore, w_lstore, w_astore, w_iinc, w_iadd, w_isub, w_imul, w_iand, w_ior, w_ixor, w_ishl, w_ishr, w_iushr, w_idiv, w_irem, w_ineg, w_ladd, w_lsub, w_lmul, w_ldiv, w_lrem, w_lcmp, w_i2l, w_l2i, w_i2b, w_i2s, w_dupi, w_dupr, w_popi, w_popr, w_dup2, w_goto, w_cut, w_switch, sw_nil, sw_cons, w_iald, w_bald, w_zald, w_aald, w_iast, w_bast, w_zast, w_ireturn, w_zr0, w_zr1, w_lreturn, w_areturn, w_vreturn, w_cpy, w_mmax, w_mmin, w_sald, w_slen, sc_nil, sc_i, sc_r, sc_l, tl_s, tl_n, ls1, ls2, lk1, hd0, Int.reduceToNat, Nat.reduceAdd, Nat.reduceLeDiff, Nat.reduceMul, true_and, and_true, w_icmp_eq, w_icmp_ne, w_icmp_lt, w_icmp_ge, w_icmp_gt, w_icmp_le, w_if_eq, w_if_ne, w_if_lt, w_if_ge, w_if_gt, w_if_le, ki_0, ki_1, ki_2, li_2, ki_3, li_3, ki_4, li_4, ki_5, li_5, ki_6, li_6, ki_7, li_7, ki_8, li_8, ki_9, li_9, ki_10, li_10, ki_11, li_11, ki_12, li_12, ki_13, ki_14, li_14, ki_15, ki_16, li_16, ki_17, li_17, ki_18, li_18, ki_19, li_19, ki_20, li_20, ki_21, li_21, ki_22, ki_23, li_23, ki_24, li_24, ki_25, li_25, ki_26, li_26, ki_27, li_27, ki_28, li_28, ki_29, ki_30, li_30, ki_199, li_199, ki_200, ki_207, ki_214, ki_215, ki_216, li_216, ki_217, li_217, ki_218, li_218, ki_219, li_219, ki_220, li_220, ki_221, li_221, ki_222, ki_223, li_223, ki_224, li_224, ki_225, li_225, ki_226, li_226, ki_227, li_227, ki_228, li_228, ki_229, li_229, ki_230, ki_231, li_231, ki_232, ki_233, li_233, ki_234, li_234, ki_235, li_235, ki_236, li_236, ki_237, li_237, ki_238, li_238, ki_239, li_239, ki_240, li_240, ki_241, li_241, ki_242, li_242, ki_243, li_243, ki_244, li_244, ki_245, li_245, tX7_share_0, kX7_share_0, tX7_share_19, kX7_share_19, tX7_share_22, kX7_share_22, tX7_share_41, kX7_share_41, tX7_share_50, kX7_share_50, tX7_share_105, kX7_share_105, tX7_share_106, kX7_share_106, tX7_share_115, kX7_share_115, tX7_share_139, kX7_share_139, tX7_share_140, kX7_share_140, hX7_share_50, wc_X7_isPlayer, ci_0, ci_999, wc_X7_in, wc_X7_allSaw, w_g230, ci_38, ci_1, lg_0, lg_1, lg_2, lg_3, lg_4, lg_5, lg_6, nI_add]
    try simp only [cm_1, cm_1000000, cm_1000001, cm_1000002, cm_1000003, cm_1000010, cm_1000100, lm_1000001, lm_1000002]
    refine exj (by omega) ?_
    rw [e11 pj hp]
    unfold shR at fin2
    simp (disch := omega) only [← zn0, nI_eq]
    refine ⟨fun z2 => ?_, fun z2 => by rw [if_pos z2] at fin2; exact fin2⟩
    rw [if_neg z2] at fin2
    have loop : ∀ m k, k + m = sC S 0 0 → Runs nX7_share (d + 20) Q 50 [some (.ref 232), some (.int (nI pj)), some (.int (nI nj)), some (.int (nI (alS (sC S)))), some (.int (nI nj - nI (shS (sC S) nj k))), some (.int (nI (shE (sC S) pj k))), some (.int (nI k))] [] M L := by
      intro m
      induction m with
      | zero =>
        intro k hk
        have hkP : k = sC S 0 0 := by omega
        subst hkP
        have hmp := mul99 hnu hpp
        refine wpH_runs oX7_share 60 50 oX7_share_50 ?_
        try simp (disch := omega) only [w_N, w_iconst, w_lcst, w_iload, w_lload, w_aload, m_i_s, m_l_s, m_a_s, w_istore, w_lstore, w_astore, w_iinc, w_iadd, w_isub, w_imul, w_iand, w_ior, w_ixor, w_ishl, w_ishr, w_iushr, w_idiv, w_irem, w_ineg, w_ladd, w_lsub, w_lmul, w_ldiv, w_lrem, w_lcmp, w_i2l, w_l2i, w_i2b, w_i2s, w_dupi, w_dupr, w_popi, w_popr, w_dup2, w_goto, w_cut, w_switch, sw_nil, sw_cons, w_iald, w_bald, w_zald, w_aald, w_iast, w_bast, w_zast, w_ireturn, w_zr0, w_zr1, w_lreturn, w_areturn, w_vreturn, w_cpy, w_mmax, w_mmin, w_sald, w_slen, sc_nil, sc_i, sc_r, sc_l, tl_s, tl_n, ls1, ls2, lk1, hd0, Int.reduceToNat, Nat.reduceAdd, Nat.reduceLeDiff, Nat.reduceMul, true_and, and_true, w_icmp_eq, w_icmp_ne, w_icmp_lt, w_icmp_ge, w_icmp_gt, w_icmp_le, w_if_eq, w_if_ne, w_if_lt, w_if_ge, w_if_gt, w_if_le, ki_0, ki_1, ki_2, li_2, ki_3, li_3, ki_4, li_4, ki_5, li_5, ki_6, li_6, ki_7, li_7, ki_8, li_8, ki_9, li_9, ki_10, li_10, ki_11, li_11, ki_12, li_12, ki_13, ki_14, li_14, ki_15, ki_16, li_16, ki_17, li_17, ki_18, li_18, ki_19, li_19, ki_20, li_20, ki_21, li_21, ki_22, ki_23, li_23, ki_24, li_24, ki_25, li_25, ki_26, li_26, ki_27, li_27, ki_28, li_28, ki_29, ki_30, li_30, ki_199, li_199, ki_200, ki_207, ki_214, ki_215, ki_216, li_216, ki_217, li_217, ki_218, li_218, ki_219, li_219, ki_220, li_220, ki_221, li_221, ki_222, ki_223, li_223, ki_224, li_224, ki_225, li_225, ki_226, li_226, ki_227, li_227, ki_228, li_228, ki_229, li_229, ki_230, ki_231, li_231, ki_232, ki_233, li_233, ki_234, li_234, ki_235, li_235, ki_236, li_236, ki_237, li_237, ki_238, li_238, ki_239, li_239, ki_240, li_240, ki_241, li_241, ki_242, li_242, ki_243, li_243, ki_244, li_244, ki_245, li_245, tX7_share_0, kX7_share_0, tX7_share_19, kX7_share_19, tX7_share_22, kX7_share_22, tX7_share_41, kX7_share_41, tX7_share_50, kX7_share_50, tX7_share_105, kX7_share_105, tX7_share_106, kX7_share_106, tX7_share_115, kX7_share_115, tX7_share_139, kX7_share_139, tX7_share_140, kX7_share_140, hX7_share_50, wc_X7_isPlayer, ci_0, ci_999, wc_X7_in, wc_X7_allSaw, w_g230, ci_38, ci_1, lg_0, lg_1, lg_2, lg_3, lg_4, lg_5, lg_6, nI_add]
        try simp only [cm_1, cm_1000000, cm_1000001, cm_1000002, cm_1000003, cm_1000010, cm_1000100, lm_1000001, lm_1000002]
        refine exj (by omega) ?_
        simp (disch := omega) only [e0, nI_leI]
        refine ⟨fun _ => exj (by omega) ?_, fun z => absurd (Nat.le_refl _) z⟩
        rw [e11 pj hp]
        simp (disch := omega) only [pk_mul, pk_div, ← zn0, nI_eq, nI_add]
        refine ⟨by omega, fun y => ?_, fun y => ?_⟩
        · rw [if_pos y] at fin2; exact fin2
        · rw [if_neg y] at fin2; exact fin2
      | succ m ih =>
        intro k hk
        have hin := ih (k + 1) (by omega)
        have hmk := mul99 hnu (h11 k (by omega))
        have h11k := h11 k (by omega)
        refine wpH_runs oX7_share 60 50 oX7_share_50 ?_
        try simp (disch := omega) only [w_N, w_iconst, w_lcst, w_iload, w_lload, w_aload, m_i_s, m_l_s, m_a_s, w_istore, w_lstore, w_astore, w_iinc, w_iadd, w_isub, w_imul, w_iand, w_ior, w_ixor, w_ishl, w_ishr, w_iushr, w_idiv, w_irem, w_ineg, w_ladd, w_lsub, w_lmul, w_ldiv, w_lrem, w_lcmp, w_i2l, w_l2i, w_i2b, w_i2s, w_dupi, w_dupr, w_popi, w_popr, w_dup2, w_goto, w_cut, w_switch, sw_nil, sw_cons, w_iald, w_bald, w_zald, w_aald, w_iast, w_bast, w_zast, w_ireturn, w_zr0, w_zr1, w_lreturn, w_areturn, w_vreturn, w_cpy, w_mmax, w_mmin, w_sald, w_slen, sc_nil, sc_i, sc_r, sc_l, tl_s, tl_n, ls1, ls2, lk1, hd0, Int.reduceToNat, Nat.reduceAdd, Nat.reduceLeDiff, Nat.reduceMul, true_and, and_true, w_icmp_eq, w_icmp_ne, w_icmp_lt, w_icmp_ge, w_icmp_gt, w_icmp_le, w_if_eq, w_if_ne, w_if_lt, w_if_ge, w_if_gt, w_if_le, ki_0, ki_1, ki_2, li_2, ki_3, li_3, ki_4, li_4, ki_5, li_5, ki_6, li_6, ki_7, li_7, ki_8, li_8, ki_9, li_9, ki_10, li_10, ki_11, li_11, ki_12, li_12, ki_13, ki_14, li_14, ki_15, ki_16, li_16, ki_17, li_17, ki_18, li_18, ki_19, li_19, ki_20, li_20, ki_21, li_21, ki_22, ki_23, li_23, ki_24, li_24, ki_25, li_25, ki_26, li_26, ki_27, li_27, ki_28, li_28, ki_29, ki_30, li_30, ki_199, li_199, ki_200, ki_207, ki_214, ki_215, ki_216, li_216, ki_217, li_217, ki_218, li_218, ki_219, li_219, ki_220, li_220, ki_221, li_221, ki_222, ki_223, li_223, ki_224, li_224, ki_225, li_225, ki_226, li_226, ki_227, li_227, ki_228, li_228, ki_229, li_229, ki_230, ki_231, li_231, ki_232, ki_233, li_233, ki_234, li_234, ki_235, li_235, ki_236, li_236, ki_237, li_237, ki_238, li_238, ki_239, li_239, ki_240, li_240, ki_241, li_241, ki_242, li_242, ki_243, li_243, ki_244, li_244, ki_245, li_245, tX7_share_0, kX7_share_0, tX7_share_19, kX7_share_19, tX7_share_22, kX7_share_22, tX7_share_41, kX7_share_41, tX7_share_50, kX7_share_50, tX7_share_105, kX7_share_105, tX7_share_106, kX7_share_106, tX7_share_115, kX7_share_115, tX7_share_139, kX7_share_139, tX7_share_140, kX7_share_140, hX7_share_50, wc_X7_isPlayer, ci_0, ci_999, wc_X7_in, wc_X7_allSaw, w_g230, ci_38, ci_1, lg_0, lg_1, lg_2, lg_3, lg_4, lg_5, lg_6, nI_add]
        try simp only [cm_1, cm_1000000, cm_1000001, cm_1000002, cm_1000003, cm_1000010, cm_1000100, lm_1000001, lm_1000002]
        refine exj (by omega) ?_
        simp (disch := omega) only [e0, nI_leI]
        refine ⟨fun z => absurd z (by omega), fun _ => exj (by omega) ?_⟩
        rw [e11 k (by omega)]
        simp (disch := omega) only [pk_mul, pk_div, ← zn0, nI_eq, nI_add, nI_leI, subsub]
        unfold shS smK at hin
        refine ⟨by omega, fun y => ?_, fun y => exj (by omega) ?_⟩
        · have hn' : ¬ (fun j => j < pj ∧ 0 < sC S 11 j) k := fun q => absurd q.1 (by omega)
          unfold shE at hin
          rw [ctK_n hn'] at hin
          exact hin
        · rw [e11 k (by omega)]
          simp (disch := omega) only [nI_leI]
          unfold shE at hin
          refine ⟨fun x => ?_, fun x => ?_⟩
          · have hn' : ¬ (fun j => j < pj ∧ 0 < sC S 11 j) k := fun q => absurd q.2 (by omega)
            rw [ctK_n hn'] at hin
            exact hin
          · have hy' : (fun j => j < pj ∧ 0 < sC S 11 j) k := ⟨by omega, by omega⟩
            rw [ctK_y hy'] at hin
            exact hin
    have := loop (sC S 0 0) 0 (by omega)
    rw [show shS (sC S) nj 0 = 0 from rfl, sub0] at this
    exact this
end
