def pB (C : Ci) : Nat → Nat → Option Ci
  | 0, _ => some C
  | k + 1, c => match pB C k (c / 8) with
    | none => none
    | some D => if inv D (bh D k) (c % 8) then none else some (tn D (bh D k) (c % 8))
noncomputable def oN (o : Option Nat) : Int32 := match o with
  | none => c_NONE
  | some v => nI v
theorem tn_ne {D : Ci} {h s x y : Nat} (hx : x ≠ 7) : tn D h s x y = D x y := by unfold tn; split; rfl; exact cu_ne hx
theorem pB_ok {C : Ci} (hw : wf C) : ∀ k c D, pB C k c = some D → wf D ∧ (∀ x y, x ≠ 7 → D x y = C x y)
  | 0, _, D, h => by cases h; exact ⟨hw, fun _ _ _ => rfl⟩
  | k + 1, c, D, h => by
    unfold pB at h
    cases he : pB C k (c / 8) with
    | none => rw [he] at h; cases h
    | some E =>
      rw [he] at h
      dsimp only at h
      obtain ⟨h1, h2⟩ := pB_ok hw k (c / 8) E he
      split at h
      · cases h
      · rename_i q
        cases h
        refine ⟨wf_tn h1 (by rcases Nat.lt_or_ge (c % 8) (E 0 0) with z | z; exact z; exact absurd (Or.inl z) q), fun x y hx => ?_⟩
        rw [tn_ne hx]; exact h2 x y hx
theorem pB_no {C : Ci} : ∀ j k c, pB C k (c / 2 ^ (3 * j)) = none → pB C (k + j) c = none
  | 0, k, c, h => by rw [show c / 2 ^ (3 * 0) = c from Nat.div_one c] at h; exact h
  | j + 1, k, c, h => by
    have hdd : c / 2 ^ (3 * (j + 1)) = c / 8 / 2 ^ (3 * j) := by rw [Nat.div_div_eq_div_mul, show 3 * (j + 1) = 3 + 3 * j by omega, Nat.pow_add]
    rw [hdd] at h
    have := pB_no j k (c / 8) h
    show (match pB C (k + j) (c / 8) with | none => none | some D => _) = _
    rw [this]
def gB (C : Ci) (n m k c : Nat) : Option Nat := (pB C k c).map (vV m (n - k) k)
theorem gB_st {C : Ci} (hw : wf C) {n m k c : Nat} (hk : k < n) : opO k (fun s => gB C n m (k + 1) (8 * c + s)) 8 = gB C n m k c := by
  have key : ∀ s, s < 8 → pB C (k + 1) (8 * c + s) = match pB C k c with
    | none => none
    | some D => if inv D (bh D k) s then none else some (tn D (bh D k) s) := fun s hs => by
    rw [show pB C (k + 1) (8 * c + s) = match pB C k ((8 * c + s) / 8) with
      | none => none
      | some D => if inv D (bh D k) ((8 * c + s) % 8) then none else some (tn D (bh D k) ((8 * c + s) % 8)) from rfl, show (8 * c + s) / 8 = c by omega, show (8 * c + s) % 8 = s by omega]
  have cg : ∀ (g e : Nat → Option Nat) j, (∀ s, s < j → g s = e s) → opO k g j = opO k e j := by
    intro g e j
    induction j with
    | zero => intro _; rfl
    | succ j ih =>
      intro h
      have h1 := ih fun s hs => h s (by omega)
      have h2 := h j (by omega)
      unfold opO
      rw [h1, h2]
  unfold gB
  cases hp : pB C k c with
  | none =>
    rw [cg _ (fun _ => none) 8 fun s hs => by rw [key s hs, hp]; rfl]
    rfl
  | some D =>
    obtain ⟨hwD, _⟩ := pB_ok hw k c D hp
    rw [cg _ (gV m (n - (k + 1)) k D) 8 fun s hs => by rw [key s hs, hp]; dsimp only; unfold gV; split <;> rfl]
    rw [vV_o hwD, show n - (k + 1) + 1 = n - k by omega]
    rfl
theorem gB_le {C : Ci} (hw : wf C) {n m k c v : Nat} (h : gB C n m k c = some v) : v ≤ 8 := by
  unfold gB at h
  cases hp : pB C k c with
  | none => rw [hp] at h; cases h
  | some D =>
    rw [hp] at h
    cases h
    exact vV_le _ _ _ (pB_ok hw k c D hp).1.1.2
theorem shr7 : ∀ a, a < 512 → ∀ k, k < 9 → (nI a >>> (nI k &&& 31)) &&& nI 7 = nI (a / 2 ^ k % 8) := by decide +kernel
theorem nN {v : Nat} (h : v < 1000) : ¬ nI v = c_NONE := fun e => by
  have := none_lt h
  rw [e] at this
  exact Int32.lt_irrefl this
section
variable {d : Nat} {M : Mm} {L : Ml} {Q : Qt} {C : Ci}
theorem z_deadBy (h : rR M 237 0 C) (hw : wf C) (h3 : C 3 0 < 2000) {n m c : Nat} (hn : n ≤ 3) (hm : m ≤ 60) (hc : c < 512) (hq : ∀ M', frP 238 M M' → Q (some (.int (oN (gB C n m n c)))) M' L) : Good (d + 5) nX7_deadBy [.ref 232, .int (nI c), .int (nI n), .int (nI m)] M L Q := by
  have hP := hw.1
  have hm1 := hw.2.1
  have e0 : M 237 0 = nI (C 0 0) := h.1 0 (by decide)
  have e1 : M 237 1 = nI (C 1 0) := h.1 1 (by decide)
  refine eX7_deadBy _ _ _ _ ?_
  try simp (disch := omega) only [w_N, w_iconst, w_lcst, w_iload, w_lload, w_aload, m_i_s, m_l_s, m_a_s, w_istore, w_lstore, w_astore, w_iinc, w_iadd, w_isub, w_imul, w_iand, w_ior, w_ixor, w_ishl, w_ishr, w_iushr, w_idiv, w_irem, w_ineg, w_ladd, w_lsub, w_lmul, w_ldiv, w_lrem, w_lcmp, w_i2l, w_l2i, w_i2b, w_i2s, w_dupi, w_dupr, w_popi, w_popr, w_dup2, w_goto, w_cut, w_switch, sw_nil, sw_cons, w_iald, w_bald, w_zald, w_aald, w_iast, w_bast, w_zast, w_ireturn, w_zr0, w_zr1, w_lreturn, w_areturn, w_vreturn, w_cpy, w_mmax, w_mmin, w_sald, w_slen, sc_nil, sc_i, sc_r, sc_l, tl_s, tl_n, ls1, ls2, lk1, hd0, Int.reduceToNat, Nat.reduceAdd, Nat.reduceLeDiff, Nat.reduceMul, true_and, and_true, w_icmp_eq, w_icmp_ne, w_icmp_lt, w_icmp_ge, w_icmp_gt, w_icmp_le, w_if_eq, w_if_ne, w_if_lt, w_if_ge, w_if_gt, w_if_le, ki_0, ki_1, ki_2, li_2, ki_3, li_3, ki_4, li_4, ki_5, li_5, ki_6, li_6, ki_7, li_7, ki_8, li_8, ki_9, li_9, ki_10, li_10, ki_11, li_11, ki_12, li_12, ki_13, ki_14, li_14, ki_15, ki_16, li_16, ki_17, li_17, ki_18, li_18, ki_19, li_19, ki_20, li_20, ki_21, li_21, ki_22, ki_23, li_23, ki_24, li_24, ki_25, li_25, ki_26, li_26, ki_27, li_27, ki_28, li_28, ki_29, ki_30, li_30, ki_199, li_199, ki_200, ki_207, ki_214, ki_215, ki_216, li_216, ki_217, li_217, ki_218, li_218, ki_219, li_219, ki_220, li_220, ki_221, li_221, ki_222, ki_223, li_223, ki_224, li_224, ki_225, li_225, ki_226, li_226, ki_227, li_227, ki_228, li_228, ki_229, li_229, ki_230, ki_231, li_231, ki_232, ki_233, li_233, ki_234, li_234, ki_235, li_235, ki_236, li_236, ki_237, li_237, ki_238, li_238, ki_239, li_239, ki_240, li_240, ki_241, li_241, ki_242, li_242, ki_243, li_243, ki_244, li_244, ki_245, li_245, tX7_deadBy_0, kX7_deadBy_0, tX7_deadBy_7, kX7_deadBy_7, tX7_deadBy_44, kX7_deadBy_44, tX7_deadBy_58, kX7_deadBy_58, tX7_deadBy_92, kX7_deadBy_92, tX7_deadBy_95, kX7_deadBy_95, tX7_deadBy_124, kX7_deadBy_124, tX7_deadBy_126, kX7_deadBy_126, tX7_deadBy_133, kX7_deadBy_133, hX7_deadBy_7, wc_X7_take, ci_0, w_g230, ci_1, wc_X7_seatBy, ci_46, ci_2, w_g231, ci_14, wc_X7_passAll, wc_X7_dead, ci_3, ci_7, lg_0, lg_1, lg_2, lg_3, lg_4, lg_5, lg_6]
  try simp only [cm_1, cm_1000000, cm_1000001, cm_1000002, cm_1000003, cm_1000010, cm_1000100, lm_1000001, lm_1000002]
  refine callOk (show d < d + 5 by omega) (z_take h hP.2 fun M1 g1 f1 => ?_)
  try simp (disch := omega) only [w_N, w_iconst, w_lcst, w_iload, w_lload, w_aload, m_i_s, m_l_s, m_a_s, w_istore, w_lstore, w_astore, w_iinc, w_iadd, w_isub, w_imul, w_iand, w_ior, w_ixor, w_ishl, w_ishr, w_iushr, w_idiv, w_irem, w_ineg, w_ladd, w_lsub, w_lmul, w_ldiv, w_lrem, w_lcmp, w_i2l, w_l2i, w_i2b, w_i2s, w_dupi, w_dupr, w_popi, w_popr, w_dup2, w_goto, w_cut, w_switch, sw_nil, sw_cons, w_iald, w_bald, w_zald, w_aald, w_iast, w_bast, w_zast, w_ireturn, w_zr0, w_zr1, w_lreturn, w_areturn, w_vreturn, w_cpy, w_mmax, w_mmin, w_sald, w_slen, sc_nil, sc_i, sc_r, sc_l, tl_s, tl_n, ls1, ls2, lk1, hd0, Int.reduceToNat, Nat.reduceAdd, Nat.reduceLeDiff, Nat.reduceMul, true_and, and_true, w_icmp_eq, w_icmp_ne, w_icmp_lt, w_icmp_ge, w_icmp_gt, w_icmp_le, w_if_eq, w_if_ne, w_if_lt, w_if_ge, w_if_gt, w_if_le, ki_0, ki_1, ki_2, li_2, ki_3, li_3, ki_4, li_4, ki_5, li_5, ki_6, li_6, ki_7, li_7, ki_8, li_8, ki_9, li_9, ki_10, li_10, ki_11, li_11, ki_12, li_12, ki_13, ki_14, li_14, ki_15, ki_16, li_16, ki_17, li_17, ki_18, li_18, ki_19, li_19, ki_20, li_20, ki_21, li_21, ki_22, ki_23, li_23, ki_24, li_24, ki_25, li_25, ki_26, li_26, ki_27, li_27, ki_28, li_28, ki_29, ki_30, li_30, ki_199, li_199, ki_200, ki_207, ki_214, ki_215, ki_216, li_216, ki_217, li_217, ki_218, li_218, ki_219, li_219, ki_220, li_220, ki_221, li_221, ki_222, ki_223, li_223, ki_224, li_224, ki_225, li_225, ki_226, li_226, ki_227, li_227, ki_228, li_228, ki_229, li_229, ki_230, ki_231, li_231, ki_232, ki_233, li_233, ki_234, li_234, ki_235, li_235, ki_236, li_236, ki_237, li_237, ki_238, li_238, ki_239, li_239, ki_240, li_240, ki_241, li_241, ki_242, li_242, ki_243, li_243, ki_244, li_244, ki_245, li_245, tX7_deadBy_0, kX7_deadBy_0, tX7_deadBy_7, kX7_deadBy_7, tX7_deadBy_44, kX7_deadBy_44, tX7_deadBy_58, kX7_deadBy_58, tX7_deadBy_92, kX7_deadBy_92, tX7_deadBy_95, kX7_deadBy_95, tX7_deadBy_124, kX7_deadBy_124, tX7_deadBy_126, kX7_deadBy_126, tX7_deadBy_133, kX7_deadBy_133, hX7_deadBy_7, wc_X7_take, ci_0, w_g230, ci_1, wc_X7_seatBy, ci_46, ci_2, w_g231, ci_14, wc_X7_passAll, wc_X7_dead, ci_3, ci_7, lg_0, lg_1, lg_2, lg_3, lg_4, lg_5, lg_6]
  try simp only [cm_1, cm_1000000, cm_1000001, cm_1000002, cm_1000003, cm_1000010, cm_1000100, lm_1000001, lm_1000002]
  have loop : ∀ mm k (M1 : Mm) (D : Ci) (o5 o6 : Option Value), k + mm = n → rR M1 238 0 D → pB C k (c / 2 ^ (3 * mm)) = some D → frP 238 M M1 → Runs nX7_deadBy (d + 5) Q 7 [some (.ref 232), some (.int (nI c)), some (.int (nI n)), some (.int (nI m)), some (.int (nI k)), o5, o6] [] M1 L := by
    intro mm
    induction mm with
    | zero =>
      intro k M1 D o5 o6 hk g hp hf
      have hkP : k = n := by omega
      subst hkP
      obtain ⟨hwD, hD⟩ := pB_ok hw _ _ _ hp
      have h3D : D 3 0 = C 3 0 := hD 3 0 (by decide)
      refine wpH_runs oX7_deadBy 60 7 oX7_deadBy_7 ?_
      try simp (disch := omega) only [w_N, w_iconst, w_lcst, w_iload, w_lload, w_aload, m_i_s, m_l_s, m_a_s, w_istore, w_lstore, w_astore, w_iinc, w_iadd, w_isub, w_imul, w_iand, w_ior, w_ixor, w_ishl, w_ishr, w_iushr, w_idiv, w_irem, w_ineg, w_ladd, w_lsub, w_lmul, w_ldiv, w_lrem, w_lcmp, w_i2l, w_l2i, w_i2b, w_i2s, w_dupi, w_dupr, w_popi, w_popr, w_dup2, w_goto, w_cut, w_switch, sw_nil, sw_cons, w_iald, w_bald, w_zald, w_aald, w_iast, w_bast, w_zast, w_ireturn, w_zr0, w_zr1, w_lreturn, w_areturn, w_vreturn, w_cpy, w_mmax, w_mmin, w_sald, w_slen, sc_nil, sc_i, sc_r, sc_l, tl_s, tl_n, ls1, ls2, lk1, hd0, Int.reduceToNat, Nat.reduceAdd, Nat.reduceLeDiff, Nat.reduceMul, true_and, and_true, w_icmp_eq, w_icmp_ne, w_icmp_lt, w_icmp_ge, w_icmp_gt, w_icmp_le, w_if_eq, w_if_ne, w_if_lt, w_if_ge, w_if_gt, w_if_le, ki_0, ki_1, ki_2, li_2, ki_3, li_3, ki_4, li_4, ki_5, li_5, ki_6, li_6, ki_7, li_7, ki_8, li_8, ki_9, li_9, ki_10, li_10, ki_11, li_11, ki_12, li_12, ki_13, ki_14, li_14, ki_15, ki_16, li_16, ki_17, li_17, ki_18, li_18, ki_19, li_19, ki_20, li_20, ki_21, li_21, ki_22, ki_23, li_23, ki_24, li_24, ki_25, li_25, ki_26, li_26, ki_27, li_27, ki_28, li_28, ki_29, ki_30, li_30, ki_199, li_199, ki_200, ki_207, ki_214, ki_215, ki_216, li_216, ki_217, li_217, ki_218, li_218, ki_219, li_219, ki_220, li_220, ki_221, li_221, ki_222, ki_223, li_223, ki_224, li_224, ki_225, li_225, ki_226, li_226, ki_227, li_227, ki_228, li_228, ki_229, li_229, ki_230, ki_231, li_231, ki_232, ki_233, li_233, ki_234, li_234, ki_235, li_235, ki_236, li_236, ki_237, li_237, ki_238, li_238, ki_239, li_239, ki_240, li_240, ki_241, li_241, ki_242, li_242, ki_243, li_243, ki_244, li_244, ki_245, li_245, tX7_deadBy_133, kX7_deadBy_133, hX7_deadBy_7, wc_X7_take, ci_0, w_g230, ci_1, wc_X7_seatBy, ci_46, ci_2, w_g231, ci_14, wc_X7_passAll, wc_X7_dead, ci_3, ci_7, lg_0, lg_1, lg_2, lg_3, lg_4, lg_5, lg_6, nI_leI]
      try simp only [cm_1, cm_1000000, cm_1000001, cm_1000002, cm_1000003, cm_1000010, cm_1000100, lm_1000001, lm_1000002]
      refine ⟨fun _ => ?_, fun z => absurd (Nat.le_refl _) z⟩
      refine callOk (show d + 4 < d + 5 by omega) (z_passAll g hwD (by omega) (by omega) fun M2 g2 f2 => ?_)
      have hwt := wf_tkN m hwD
      try simp (disch := omega) only [w_N, w_iconst, w_lcst, w_iload, w_lload, w_aload, m_i_s, m_l_s, m_a_s, w_istore, w_lstore, w_astore, w_iinc, w_iadd, w_isub, w_imul, w_iand, w_ior, w_ixor, w_ishl, w_ishr, w_iushr, w_idiv, w_irem, w_ineg, w_ladd, w_lsub, w_lmul, w_ldiv, w_lrem, w_lcmp, w_i2l, w_l2i, w_i2b, w_i2s, w_dupi, w_dupr, w_popi, w_popr, w_dup2, w_goto, w_cut, w_switch, sw_nil, sw_cons, w_iald, w_bald, w_zald, w_aald, w_iast, w_bast, w_zast, w_ireturn, w_zr0, w_zr1, w_lreturn, w_areturn, w_vreturn, w_cpy, w_mmax, w_mmin, w_sald, w_slen, sc_nil, sc_i, sc_r, sc_l, tl_s, tl_n, ls1, ls2, lk1, hd0, Int.reduceToNat, Nat.reduceAdd, Nat.reduceLeDiff, Nat.reduceMul, true_and, and_true, w_icmp_eq, w_icmp_ne, w_icmp_lt, w_icmp_ge, w_icmp_gt, w_icmp_le, w_if_eq, w_if_ne, w_if_lt, w_if_ge, w_if_gt, w_if_le, ki_0, ki_1, ki_2, li_2, ki_3, li_3, ki_4, li_4, ki_5, li_5, ki_6, li_6, ki_7, li_7, ki_8, li_8, ki_9, li_9, ki_10, li_10, ki_11, li_11, ki_12, li_12, ki_13, ki_14, li_14, ki_15, ki_16, li_16, ki_17, li_17, ki_18, li_18, ki_19, li_19, ki_20, li_20, ki_21, li_21, ki_22, ki_23, li_23, ki_24, li_24, ki_25, li_25, ki_26, li_26, ki_27, li_27, ki_28, li_28, ki_29, ki_30, li_30, ki_199, li_199, ki_200, ki_207, ki_214, ki_215, ki_216, li_216, ki_217, li_217, ki_218, li_218, ki_219, li_219, ki_220, li_220, ki_221, li_221, ki_222, ki_223, li_223, ki_224, li_224, ki_225, li_225, ki_226, li_226, ki_227, li_227, ki_228, li_228, ki_229, li_229, ki_230, ki_231, li_231, ki_232, ki_233, li_233, ki_234, li_234, ki_235, li_235, ki_236, li_236, ki_237, li_237, ki_238, li_238, ki_239, li_239, ki_240, li_240, ki_241, li_241, ki_242, li_242, ki_243, li_243, ki_244, li_244, ki_245, li_245, hX7_deadBy_7, wc_X7_take, ci_0, w_g230, ci_1, wc_X7_seatBy, ci_46, ci_2, w_g231, ci_14, wc_X7_passAll, wc_X7_dead, ci_3, ci_7, lg_0, lg_1, lg_2, lg_3, lg_4, lg_5, lg_6]
      try simp only [cm_1, cm_1000000, cm_1000001, cm_1000002, cm_1000003, cm_1000010, cm_1000100, lm_1000001, lm_1000002]
      refine callOk (show d + 1 < d + 5 by omega) (z_dead (Or.inr rfl) g2 hwt.1.2 (fun j hj => (hwt.2.2.2.2.2 j hj).2.2.2.1) ?_)
      try simp (disch := omega) only [w_N, w_iconst, w_lcst, w_iload, w_lload, w_aload, m_i_s, m_l_s, m_a_s, w_istore, w_lstore, w_astore, w_iinc, w_iadd, w_isub, w_imul, w_iand, w_ior, w_ixor, w_ishl, w_ishr, w_iushr, w_idiv, w_irem, w_ineg, w_ladd, w_lsub, w_lmul, w_ldiv, w_lrem, w_lcmp, w_i2l, w_l2i, w_i2b, w_i2s, w_dupi, w_dupr, w_popi, w_popr, w_dup2, w_goto, w_cut, w_switch, sw_nil, sw_cons, w_iald, w_bald, w_zald, w_aald, w_iast, w_bast, w_zast, w_ireturn, w_zr0, w_zr1, w_lreturn, w_areturn, w_vreturn, w_cpy, w_mmax, w_mmin, w_sald, w_slen, sc_nil, sc_i, sc_r, sc_l, tl_s, tl_n, ls1, ls2, lk1, hd0, Int.reduceToNat, Nat.reduceAdd, Nat.reduceLeDiff, Nat.reduceMul, true_and, and_true, w_icmp_eq, w_icmp_ne, w_icmp_lt, w_icmp_ge, w_icmp_gt, w_icmp_le, w_if_eq, w_if_ne, w_if_lt, w_if_ge, w_if_gt, w_if_le, ki_0, ki_1, ki_2, li_2, ki_3, li_3, ki_4, li_4, ki_5, li_5, ki_6, li_6, ki_7, li_7, ki_8, li_8, ki_9, li_9, ki_10, li_10, ki_11, li_11, ki_12, li_12, ki_13, ki_14, li_14, ki_15, ki_16, li_16, ki_17, li_17, ki_18, li_18, ki_19, li_19, ki_20, li_20, ki_21, li_21, ki_22, ki_23, li_23, ki_24, li_24, ki_25, li_25, ki_26, li_26, ki_27, li_27, ki_28, li_28, ki_29, ki_30, li_30, ki_199, li_199, ki_200, ki_207, ki_214, ki_215, ki_216, li_216, ki_217, li_217, ki_218, li_218, ki_219, li_219, ki_220, li_220, ki_221, li_221, ki_222, ki_223, li_223, ki_224, li_224, ki_225, li_225, ki_226, li_226, ki_227, li_227, ki_228, li_228, ki_229, li_229, ki_230, ki_231, li_231, ki_232, ki_233, li_233, ki_234, li_234, ki_235, li_235, ki_236, li_236, ki_237, li_237, ki_238, li_238, ki_239, li_239, ki_240, li_240, ki_241, li_241, ki_242, li_242, ki_243, li_243, ki_244, li_244, ki_245, li_245, hX7_deadBy_7, wc_X7_take, ci_0, w_g230, ci_1, wc_X7_seatBy, ci_46, ci_2, w_g231, ci_14, wc_X7_passAll, wc_X7_dead, ci_3, ci_7, lg_0, lg_1, lg_2, lg_3, lg_4, lg_5, lg_6]
      try simp only [cm_1, cm_1000000, cm_1000001, cm_1000002, cm_1000003, cm_1000010, cm_1000100, lm_1000001, lm_1000002]
      have fin := hq M2 (hf.tr f2)
      rw [show c / 2 ^ (3 * 0) = c from Nat.div_one c] at hp
      unfold gB at fin
      rw [hp, Nat.sub_self] at fin
      exact fin
    | succ mm ih =>
      intro k M1 D o5 o6 hk g hp hf
      obtain ⟨hwD, hD⟩ := pB_ok hw _ _ _ hp
      have h5' : rR M1 237 0 C := h.row (hf 237 (by decide) (by decide))
      have e0' : M1 237 0 = nI (C 0 0) := h5'.1 0 (by decide)
      have e1' : M1 237 1 = nI (C 1 0) := h5'.1 1 (by decide)
      have eb : bh D k = bh C k := by unfold bh; rw [hD 1 0 (by decide), hD 0 0 (by decide)]
      have hb := bh_lt hw k
      have h9 := h5'.h hb
      rw [Nat.zero_add] at h9
      have h92 := (hw.2.2.2.2.2 _ hb).2.2.2.1
      have e90 : D 9 (bh C k) = C 9 (bh C k) := hD 9 _ (by decide)
      have hD0 : D 0 0 = C 0 0 := hD 0 0 (by decide)
      have e3s : nI n - nI 1 - nI k = nI mm := by rw [pk_sub (by omega), pk_sub (by omega), show n - 1 - k = mm by omega]
      have e7 := shr7 c hc (3 * mm) (by omega)
      have hs8 : c / 2 ^ (3 * mm) % 8 < 8 := Nat.mod_lt _ (by decide)
      have hdd : c / 2 ^ (3 * (mm + 1)) = c / 2 ^ (3 * mm) / 8 := by rw [Nat.div_div_eq_div_mul, show 3 * (mm + 1) = 3 * mm + 3 by omega, Nat.pow_add]
      have hpn : pB C (k + 1) (c / 2 ^ (3 * mm)) = if inv D (bh C k) (c / 2 ^ (3 * mm) % 8) then none else some (tn D (bh C k) (c / 2 ^ (3 * mm) % 8)) := by
        rw [hdd] at hp
        show (match pB C k (c / 2 ^ (3 * mm) / 8) with | none => none | some D => _) = _
        rw [hp]
        dsimp only
        rw [eb]
      have noo : inv D (bh C k) (c / 2 ^ (3 * mm) % 8) → Q (some (.int c_NONE)) M1 L := fun z => by
        rw [if_pos z] at hpn
        have fin := hq M1 hf
        have := pB_no mm (k + 1) c hpn
        rw [show k + 1 + mm = n by omega] at this
        unfold gB at fin
        rw [this] at fin
        exact fin
      generalize c / 2 ^ (3 * mm) % 8 = s at *
      have tail : ∀ (f : Nat), ¬ inv D (bh C k) s → wp (wpN 184 (d + 5) tX7_deadBy Q (f + 5)) (Runs 184 (d + 5) Q) (CallOk (d + 5)) Q (tb tX7_deadBy 95) [some (.ref 232), some (.int (nI c)), some (.int (nI n)), some (.int (nI m)), some (.int (nI k)), some (.int (nI s)), some (.int (nI (bh C k)))] [] M1 L := by
        intro f hni
        rw [if_neg hni] at hpn
        have gin := fun M1 o5 o6 => ih (k + 1) M1 (tn D (bh C k) s) o5 o6 (by omega)
        unfold tn at gin hpn
        try simp (disch := omega) only [w_N, w_iconst, w_lcst, w_iload, w_lload, w_aload, m_i_s, m_l_s, m_a_s, w_istore, w_lstore, w_astore, w_iinc, w_iadd, w_isub, w_imul, w_iand, w_ior, w_ixor, w_ishl, w_ishr, w_iushr, w_idiv, w_irem, w_ineg, w_ladd, w_lsub, w_lmul, w_ldiv, w_lrem, w_lcmp, w_i2l, w_l2i, w_i2b, w_i2s, w_dupi, w_dupr, w_popi, w_popr, w_dup2, w_goto, w_cut, w_switch, sw_nil, sw_cons, w_iald, w_bald, w_zald, w_aald, w_iast, w_bast, w_zast, w_ireturn, w_zr0, w_zr1, w_lreturn, w_areturn, w_vreturn, w_cpy, w_mmax, w_mmin, w_sald, w_slen, sc_nil, sc_i, sc_r, sc_l, tl_s, tl_n, ls1, ls2, lk1, hd0, Int.reduceToNat, Nat.reduceAdd, Nat.reduceLeDiff, Nat.reduceMul, true_and, and_true, w_icmp_eq, w_icmp_ne, w_icmp_lt, w_icmp_ge, w_icmp_gt, w_icmp_le, w_if_eq, w_if_ne, w_if_lt, w_if_ge, w_if_gt, w_if_le, ki_0, ki_1, ki_2, li_2, ki_3, li_3, ki_4, li_4, ki_5, li_5, ki_6, li_6, ki_7, li_7, ki_8, li_8, ki_9, li_9, ki_10, li_10, ki_11, li_11, ki_12, li_12, ki_13, ki_14, li_14, ki_15, ki_16, li_16, ki_17, li_17, ki_18, li_18, ki_19, li_19, ki_20, li_20, ki_21, li_21, ki_22, ki_23, li_23, ki_24, li_24, ki_25, li_25, ki_26, li_26, ki_27, li_27, ki_28, li_28, ki_29, ki_30, li_30, ki_199, li_199, ki_200, ki_207, ki_214, ki_215, ki_216, li_216, ki_217, li_217, ki_218, li_218, ki_219, li_219, ki_220, li_220, ki_221, li_221, ki_222, ki_223, li_223, ki_224, li_224, ki_225, li_225, ki_226, li_226, ki_227, li_227, ki_228, li_228, ki_229, li_229, ki_230, ki_231, li_231, ki_232, ki_233, li_233, ki_234, li_234, ki_235, li_235, ki_236, li_236, ki_237, li_237, ki_238, li_238, ki_239, li_239, ki_240, li_240, ki_241, li_241, ki_242, li_242, ki_243, li_243, ki_244, li_244, ki_245, li_245, tX7_deadBy_95, kX7_deadBy_95, hX7_deadBy_7, wc_X7_take, ci_0, w_g230, ci_1, wc_X7_seatBy, ci_46, ci_2, w_g231, ci_14, wc_X7_passAll, wc_X7_dead, ci_3, ci_7, lg_0, lg_1, lg_2, lg_3, lg_4, lg_5, lg_6, nI_add, nI_eq]
        try simp only [cm_1, cm_1000000, cm_1000001, cm_1000002, cm_1000003, cm_1000010, cm_1000100, lm_1000001, lm_1000002]
        refine ⟨fun z => ?_, fun z => exj (by omega) ?_⟩
        · rw [if_neg z] at gin hpn
          try simp (disch := omega) only [w_N, w_iconst, w_lcst, w_iload, w_lload, w_aload, m_i_s, m_l_s, m_a_s, w_istore, w_lstore, w_astore, w_iinc, w_iadd, w_isub, w_imul, w_iand, w_ior, w_ixor, w_ishl, w_ishr, w_iushr, w_idiv, w_irem, w_ineg, w_ladd, w_lsub, w_lmul, w_ldiv, w_lrem, w_lcmp, w_i2l, w_l2i, w_i2b, w_i2s, w_dupi, w_dupr, w_popi, w_popr, w_dup2, w_goto, w_cut, w_switch, sw_nil, sw_cons, w_iald, w_bald, w_zald, w_aald, w_iast, w_bast, w_zast, w_ireturn, w_zr0, w_zr1, w_lreturn, w_areturn, w_vreturn, w_cpy, w_mmax, w_mmin, w_sald, w_slen, sc_nil, sc_i, sc_r, sc_l, tl_s, tl_n, ls1, ls2, lk1, hd0, Int.reduceToNat, Nat.reduceAdd, Nat.reduceLeDiff, Nat.reduceMul, true_and, and_true, w_icmp_eq, w_icmp_ne, w_icmp_lt, w_icmp_ge, w_icmp_gt, w_icmp_le, w_if_eq, w_if_ne, w_if_lt, w_if_ge, w_if_gt, w_if_le, ki_0, ki_1, ki_2, li_2, ki_3, li_3, ki_4, li_4, ki_5, li_5, ki_6, li_6, ki_7, li_7, ki_8, li_8, ki_9, li_9, ki_10, li_10, ki_11, li_11, ki_12, li_12, ki_13, ki_14, li_14, ki_15, ki_16, li_16, ki_17, li_17, ki_18, li_18, ki_19, li_19, ki_20, li_20, ki_21, li_21, ki_22, ki_23, li_23, ki_24, li_24, ki_25, li_25, ki_26, li_26, ki_27, li_27, ki_28, li_28, ki_29, ki_30, li_30, ki_199, li_199, ki_200, ki_207, ki_214, ki_215, ki_216, li_216, ki_217, li_217, ki_218, li_218, ki_219, li_219, ki_220, li_220, ki_221, li_221, ki_222, ki_223, li_223, ki_224, li_224, ki_225, li_225, ki_226, li_226, ki_227, li_227, ki_228, li_228, ki_229, li_229, ki_230, ki_231, li_231, ki_232, ki_233, li_233, ki_234, li_234, ki_235, li_235, ki_236, li_236, ki_237, li_237, ki_238, li_238, ki_239, li_239, ki_240, li_240, ki_241, li_241, ki_242, li_242, ki_243, li_243, ki_244, li_244, ki_245, li_245, tX7_deadBy_124, kX7_deadBy_124, hX7_deadBy_7, wc_X7_take, ci_0, w_g230, ci_1, wc_X7_seatBy, ci_46, ci_2, w_g231, ci_14, wc_X7_passAll, wc_X7_dead, ci_3, ci_7, lg_0, lg_1, lg_2, lg_3, lg_4, lg_5, lg_6, nI_add]
          try simp only [cm_1, cm_1000000, cm_1000001, cm_1000002, cm_1000003, cm_1000010, cm_1000100, lm_1000001, lm_1000002]
          refine exj (by omega) ?_
          have g2 := g.a7 (by omega) (bh C k) s (by omega)
          rw [lkR_e (by omega), Nat.zero_add] at g2
          exact gin _ _ _ g2 hpn hf.um
        · rw [if_pos z] at gin hpn
          try simp (disch := omega) only [w_N, w_iconst, w_lcst, w_iload, w_lload, w_aload, m_i_s, m_l_s, m_a_s, w_istore, w_lstore, w_astore, w_iinc, w_iadd, w_isub, w_imul, w_iand, w_ior, w_ixor, w_ishl, w_ishr, w_iushr, w_idiv, w_irem, w_ineg, w_ladd, w_lsub, w_lmul, w_ldiv, w_lrem, w_lcmp, w_i2l, w_l2i, w_i2b, w_i2s, w_dupi, w_dupr, w_popi, w_popr, w_dup2, w_goto, w_cut, w_switch, sw_nil, sw_cons, w_iald, w_bald, w_zald, w_aald, w_iast, w_bast, w_zast, w_ireturn, w_zr0, w_zr1, w_lreturn, w_areturn, w_vreturn, w_cpy, w_mmax, w_mmin, w_sald, w_slen, sc_nil, sc_i, sc_r, sc_l, tl_s, tl_n, ls1, ls2, lk1, hd0, Int.reduceToNat, Nat.reduceAdd, Nat.reduceLeDiff, Nat.reduceMul, true_and, and_true, w_icmp_eq, w_icmp_ne, w_icmp_lt, w_icmp_ge, w_icmp_gt, w_icmp_le, w_if_eq, w_if_ne, w_if_lt, w_if_ge, w_if_gt, w_if_le, ki_0, ki_1, ki_2, li_2, ki_3, li_3, ki_4, li_4, ki_5, li_5, ki_6, li_6, ki_7, li_7, ki_8, li_8, ki_9, li_9, ki_10, li_10, ki_11, li_11, ki_12, li_12, ki_13, ki_14, li_14, ki_15, ki_16, li_16, ki_17, li_17, ki_18, li_18, ki_19, li_19, ki_20, li_20, ki_21, li_21, ki_22, ki_23, li_23, ki_24, li_24, ki_25, li_25, ki_26, li_26, ki_27, li_27, ki_28, li_28, ki_29, ki_30, li_30, ki_199, li_199, ki_200, ki_207, ki_214, ki_215, ki_216, li_216, ki_217, li_217, ki_218, li_218, ki_219, li_219, ki_220, li_220, ki_221, li_221, ki_222, ki_223, li_223, ki_224, li_224, ki_225, li_225, ki_226, li_226, ki_227, li_227, ki_228, li_228, ki_229, li_229, ki_230, ki_231, li_231, ki_232, ki_233, li_233, ki_234, li_234, ki_235, li_235, ki_236, li_236, ki_237, li_237, ki_238, li_238, ki_239, li_239, ki_240, li_240, ki_241, li_241, ki_242, li_242, ki_243, li_243, ki_244, li_244, ki_245, li_245, tX7_deadBy_126, kX7_deadBy_126, hX7_deadBy_7, wc_X7_take, ci_0, w_g230, ci_1, wc_X7_seatBy, ci_46, ci_2, w_g231, ci_14, wc_X7_passAll, wc_X7_dead, ci_3, ci_7, lg_0, lg_1, lg_2, lg_3, lg_4, lg_5, lg_6, nI_add]
          try simp only [cm_1, cm_1000000, cm_1000001, cm_1000002, cm_1000003, cm_1000010, cm_1000100, lm_1000001, lm_1000002]
          refine exj (by omega) ?_
          rw [um_same]
          exact gin _ _ _ g hpn hf
      have mid : ∀ (f : Nat), wp (wpN 184 (d + 5) tX7_deadBy Q (f + 10)) (Runs 184 (d + 5) Q) (CallOk (d + 5)) Q (tb tX7_deadBy 58) [some (.ref 232), some (.int (nI c)), some (.int (nI n)), some (.int (nI m)), some (.int (nI k)), some (.int (nI s)), o6] [.int (nI (bh C k))] M1 L := by
        intro f
        try simp (disch := omega) only [w_N, w_iconst, w_lcst, w_iload, w_lload, w_aload, m_i_s, m_l_s, m_a_s, w_istore, w_lstore, w_astore, w_iinc, w_iadd, w_isub, w_imul, w_iand, w_ior, w_ixor, w_ishl, w_ishr, w_iushr, w_idiv, w_irem, w_ineg, w_ladd, w_lsub, w_lmul, w_ldiv, w_lrem, w_lcmp, w_i2l, w_l2i, w_i2b, w_i2s, w_dupi, w_dupr, w_popi, w_popr, w_dup2, w_goto, w_cut, w_switch, sw_nil, sw_cons, w_iald, w_bald, w_zald, w_aald, w_iast, w_bast, w_zast, w_ireturn, w_zr0, w_zr1, w_lreturn, w_areturn, w_vreturn, w_cpy, w_mmax, w_mmin, w_sald, w_slen, sc_nil, sc_i, sc_r, sc_l, tl_s, tl_n, ls1, ls2, lk1, hd0, Int.reduceToNat, Nat.reduceAdd, Nat.reduceLeDiff, Nat.reduceMul, true_and, and_true, w_icmp_eq, w_icmp_ne, w_icmp_lt, w_icmp_ge, w_icmp_gt, w_icmp_le, w_if_eq, w_if_ne, w_if_lt, w_if_ge, w_if_gt, w_if_le, ki_0, ki_1, ki_2, li_2, ki_3, li_3, ki_4, li_4, ki_5, li_5, ki_6, li_6, ki_7, li_7, ki_8, li_8, ki_9, li_9, ki_10, li_10, ki_11, li_11, ki_12, li_12, ki_13, ki_14, li_14, ki_15, ki_16, li_16, ki_17, li_17, ki_18, li_18, ki_19, li_19, ki_20, li_20, ki_21, li_21, ki_22, ki_23, li_23, ki_24, li_24, ki_25, li_25, ki_26, li_26, ki_27, li_27, ki_28, li_28, ki_29, ki_30, li_30, ki_199, li_199, ki_200, ki_207, ki_214, ki_215, ki_216, li_216, ki_217, li_217, ki_218, li_218, ki_219, li_219, ki_220, li_220, ki_221, li_221, ki_222, ki_223, li_223, ki_224, li_224, ki_225, li_225, ki_226, li_226, ki_227, li_227, ki_228, li_228, ki_229, li_229, ki_230, ki_231, li_231, ki_232, ki_233, li_233, ki_234, li_234, ki_235, li_235, ki_236, li_236, ki_237, li_237, ki_238, li_238, ki_239, li_239, ki_240, li_240, ki_241, li_241, ki_242, li_242, ki_243, li_243, ki_244, li_244, ki_245, li_245, tX7_deadBy_58, kX7_deadBy_58, tX7_deadBy_92, kX7_deadBy_92, hX7_deadBy_7, wc_X7_take, ci_0, w_g230, ci_1, wc_X7_seatBy, ci_46, ci_2, w_g231, ci_14, wc_X7_passAll, wc_X7_dead, ci_3, ci_7, lg_0, lg_1, lg_2, lg_3, lg_4, lg_5, lg_6]
        try simp only [cm_1, cm_1000000, cm_1000001, cm_1000002, cm_1000003, cm_1000010, cm_1000100, lm_1000001, lm_1000002]
        refine exj (by omega) ?_
        simp (disch := omega) only [e0', nI_leI, nI_eq, nI_add]
        refine ⟨fun z => noo (Or.inl (by omega)), fun z => ⟨fun y => tail _ (fun q => by rcases q with q | q; omega; exact q.1 y), fun y => exj (by omega) ?_⟩⟩
        rw [h9]
        simp (disch := omega) only [nI_eq]
        exact ⟨fun v => tail _ (fun q => by rcases q with q | q; omega; exact v (e90.symm.trans q.2)), fun v => noo (Or.inr ⟨y, e90.trans v⟩)⟩
      refine wpH_runs oX7_deadBy 60 7 oX7_deadBy_7 ?_
      try simp (disch := omega) only [w_N, w_iconst, w_lcst, w_iload, w_lload, w_aload, m_i_s, m_l_s, m_a_s, w_istore, w_lstore, w_astore, w_iinc, w_iadd, w_isub, w_imul, w_iand, w_ior, w_ixor, w_ishl, w_ishr, w_iushr, w_idiv, w_irem, w_ineg, w_ladd, w_lsub, w_lmul, w_ldiv, w_lrem, w_lcmp, w_i2l, w_l2i, w_i2b, w_i2s, w_dupi, w_dupr, w_popi, w_popr, w_dup2, w_goto, w_cut, w_switch, sw_nil, sw_cons, w_iald, w_bald, w_zald, w_aald, w_iast, w_bast, w_zast, w_ireturn, w_zr0, w_zr1, w_lreturn, w_areturn, w_vreturn, w_cpy, w_mmax, w_mmin, w_sald, w_slen, sc_nil, sc_i, sc_r, sc_l, tl_s, tl_n, ls1, ls2, lk1, hd0, Int.reduceToNat, Nat.reduceAdd, Nat.reduceLeDiff, Nat.reduceMul, true_and, and_true, w_icmp_eq, w_icmp_ne, w_icmp_lt, w_icmp_ge, w_icmp_gt, w_icmp_le, w_if_eq, w_if_ne, w_if_lt, w_if_ge, w_if_gt, w_if_le, ki_0, ki_1, ki_2, li_2, ki_3, li_3, ki_4, li_4, ki_5, li_5, ki_6, li_6, ki_7, li_7, ki_8, li_8, ki_9, li_9, ki_10, li_10, ki_11, li_11, ki_12, li_12, ki_13, ki_14, li_14, ki_15, ki_16, li_16, ki_17, li_17, ki_18, li_18, ki_19, li_19, ki_20, li_20, ki_21, li_21, ki_22, ki_23, li_23, ki_24, li_24, ki_25, li_25, ki_26, li_26, ki_27, li_27, ki_28, li_28, ki_29, ki_30, li_30, ki_199, li_199, ki_200, ki_207, ki_214, ki_215, ki_216, li_216, ki_217, li_217, ki_218, li_218, ki_219, li_219, ki_220, li_220, ki_221, li_221, ki_222, ki_223, li_223, ki_224, li_224, ki_225, li_225, ki_226, li_226, ki_227, li_227, ki_228, li_228, ki_229, li_229, ki_230, ki_231, li_231, ki_232, ki_233, li_233, ki_234, li_234, ki_235, li_235, ki_236, li_236, ki_237, li_237, ki_238, li_238, ki_239, li_239, ki_240, li_240, ki_241, li_241, ki_242, li_242, ki_243, li_243, ki_244, li_244, ki_245, li_245, tX7_deadBy_44, kX7_deadBy_44, hX7_deadBy_7, wc_X7_take, ci_0, w_g230, ci_1, wc_X7_seatBy, ci_46, ci_2, w_g231, ci_14, wc_X7_passAll, wc_X7_dead, ci_3, ci_7, lg_0, lg_1, lg_2, lg_3, lg_4, lg_5, lg_6, nI_leI, e3s, pk_mul, e7, pk_rem, ← zn0, nI_eq]
      try simp only [cm_1, cm_1000000, cm_1000001, cm_1000002, cm_1000003, cm_1000010, cm_1000100, lm_1000001, lm_1000002]
      refine ⟨fun z => absurd z (by omega), fun _ => ⟨by decide, fun z => exj (by omega) ?_, fun z => exj (by omega) ?_⟩⟩
      · rw [e1']
        have eh : bh C k = abv (C 0 0) (C 1 0) := if_neg z
        refine callOk (show d < d + 5 by omega) (z_seatUp (Or.inl rfl) h5' hP hm1 ?_)
        rw [← eh]
        exact mid _
      · have eh : bh C k = C 1 0 := if_pos z
        rw [e1', ← eh]
        exact mid _
  exact loop n 0 M1 C _ _ (by omega) g1 rfl f1.P
end
