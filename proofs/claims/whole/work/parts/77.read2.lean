def dC (M : Mm) (p mu pr : Nat) (K Lo Sl : Nat → Nat) : Prop := (M 22 0 = nI p ∧ M 22 1 = nI mu ∧ M 22 2 = nI pr ∧ M 22 3 = nI 0 ∧ M 22 4 = nI 0 ∧ M 22 5 = nI 0) ∧ (∀ j, j < p → M 23 j = nI (K j) ∧ M 24 j = nI (Lo j) ∧ M 25 j = nI (Sl j)) ∧ ∀ j, j < 8 → M 26 j = nI 0 ∧ M 27 j = nI 0 ∧ M 28 j = nI 0
def frD (M M' : Mm) : Prop := ∀ x, x ≠ 13 → (x < 22 ∨ 28 < x) → M' x = M x
theorem frD.rf {M : Mm} : frD M M := fun _ _ _ => rfl
theorem frD.tr {M M1 M2 : Mm} (h1 : frD M M1) (h2 : frD M1 M2) : frD M M2 := fun x hx hy => (h2 x hx hy).trans (h1 x hx hy)
theorem frR.D {M M' : Mm} (h : frR M M') : frD M M' := fun x hx _ => h x hx
theorem fr.D {M M' : Mm} (h : fr 22 M M') : frD M M' := fun x _ hx => h x (by omega)
theorem frD.um {M M1 : Mm} (h : frD M M1) {a k : Nat} {v : Int32} (h1 : 22 ≤ a) (h2 : a ≤ 28) : frD M (um M1 a k v) := fun x hx hy => (um_ne _ _ _ _ (by omega)).trans (h x hx hy)
theorem dC.R {M M' : Mm} {p mu pr : Nat} {K Lo Sl : Nat → Nat} (h : dC M p mu pr K Lo Sl) (hf : frR M M') : dC M' p mu pr K Lo Sl := by
  unfold dC
  rw [hf 22 (by decide), hf 23 (by decide), hf 24 (by decide), hf 25 (by decide), hf 26 (by decide), hf 27 (by decide), hf 28 (by decide)]
  exact h
def crc (p mu pr : Nat) (K Lo Sl : Nat → Nat) : Ci := fun x y => if x = 0 then p else if x = 1 then (if p ≤ mu then p - 1 else mu) else if x = 2 then pr else if x = 6 then K y else if x = 7 then (if p ≤ Lo y ∨ Lo y = y then abv p y else Lo y) else if x = 8 then Sl y else 0
theorem wf_crc {p mu pr : Nat} {K Lo Sl : Nat → Nat} (h1 : 3 ≤ p) (h2 : p ≤ 8) (h3 : 1 ≤ pr ∧ pr ≤ 9) (hk : okK p K Lo Sl) : wfT (crc p mu pr K Lo Sl) := by
  refine ⟨⟨⟨h1, h2⟩, ?_, h3, Nat.zero_le _, by show 0 < 256; decide, fun j hj => ?_⟩, Nat.zero_le _⟩
  · show (if p ≤ mu then p - 1 else mu) < p
    split <;> omega
  · have hj' : j < p := hj
    obtain ⟨a1, a2, a3⟩ := hk j hj'
    refine ⟨a1, Or.inr ?_, a3, Nat.zero_le _, Nat.zero_le _, fun z => absurd (show (0 : Nat) = 1 from z) (by decide), fun _ => rfl, Nat.zero_le _⟩
    show (if p ≤ Lo j ∨ Lo j = j then abv p j else Lo j) < p ∧ (if p ≤ Lo j ∨ Lo j = j then abv p j else Lo j) ≠ j
    split
    · exact ⟨abv_lt h1, abv_ne h1 hj'⟩
    · rename_i q; exact ⟨by omega, fun z => q (Or.inr z)⟩
def loK (p : Nat) (Lo : Nat → Nat) (k : Nat) : Nat → Nat := fun j => if j < k then (if p ≤ Lo j ∨ Lo j = j then abv p j else Lo j) else Lo j
section
variable {d : Nat} {M : Mm} {L : Ml} {Q : Qt} {T : Tp} {p mu pr : Nat} {K Lo Sl : Nat → Nat}
theorem x_clear22 (hq : ∀ M', dC M' 0 0 1 kz kz kz → fr 22 M M' → Q none M' L) : Good d nX2_clear [.ref 22] M L Q := by
  refine eX2_clear _ ?_
  try simp (disch := omega) only [w_N, w_iconst, w_lcst, w_iload, w_lload, w_aload, m_i_s, m_l_s, m_a_s, w_istore, w_lstore, w_astore, w_iinc, w_iadd, w_isub, w_imul, w_iand, w_ior, w_ixor, w_ishl, w_ishr, w_iushr, w_idiv, w_irem, w_ineg, w_ladd, w_lsub, w_lmul, w_ldiv, w_lrem, w_lcmp, w_i2l, w_l2i, w_i2b, w_i2s, w_dupi, w_dupr, w_popi, w_popr, w_dup2, w_goto, w_cut, w_switch, sw_nil, sw_cons, w_iald, w_bald, w_zald, w_aald, w_iast, w_bast, w_zast, w_ireturn, w_zr0, w_zr1, w_lreturn, w_areturn, w_vreturn, w_cpy, w_mmax, w_mmin, w_sald, w_slen, sc_nil, sc_i, sc_r, sc_l, tl_s, tl_n, ls1, ls2, lk1, hd0, Int.reduceToNat, Nat.reduceAdd, Nat.reduceLeDiff, Nat.reduceMul, true_and, and_true, w_icmp_eq, w_icmp_ne, w_icmp_lt, w_icmp_ge, w_icmp_gt, w_icmp_le, w_if_eq, w_if_ne, w_if_lt, w_if_ge, w_if_gt, w_if_le, ki_0, ki_1, ki_2, li_2, ki_3, li_3, ki_4, li_4, ki_5, li_5, ki_6, li_6, ki_7, li_7, ki_8, li_8, ki_9, li_9, ki_10, li_10, ki_11, li_11, ki_12, li_12, ki_13, ki_14, li_14, ki_15, ki_16, li_16, ki_17, li_17, ki_18, li_18, ki_19, li_19, ki_20, li_20, ki_21, li_21, ki_22, ki_23, li_23, ki_24, li_24, ki_25, li_25, ki_26, li_26, ki_27, li_27, ki_28, li_28, ki_29, ki_30, li_30, ki_199, li_199, ki_200, ki_207, ki_214, ki_215, ki_216, li_216, ki_217, li_217, ki_218, li_218, ki_219, li_219, ki_220, li_220, ki_221, li_221, ki_222, ki_223, li_223, ki_224, li_224, ki_225, li_225, ki_226, li_226, ki_227, li_227, ki_228, li_228, ki_229, li_229, ki_230, ki_231, li_231, ki_232, ki_233, li_233, ki_234, li_234, ki_235, li_235, ki_236, li_236, ki_237, li_237, ki_238, li_238, ki_239, li_239, ki_240, li_240, ki_241, li_241, ki_242, li_242, ki_243, li_243, ki_244, li_244, ki_245, li_245, tX2_clear_0, kX2_clear_0, tX2_clear_32, kX2_clear_32, tX2_clear_87, kX2_clear_87, hX2_clear_32, ci_0, w_p64, w_p65, ci_1, w_p66, w_p67, w_p68, w_p69, ci_8, w_g70, w_g71, w_g72, w_g73, w_g74, w_g75, lg_0, lg_1]
  try simp only [cm_1, cm_1000000, cm_1000001, cm_1000002, cm_1000003, cm_1000010, cm_1000100, lm_1000001, lm_1000002]
  have loop : ∀ m k (M1 : Mm), k + m = 8 → (M1 22 0 = nI 0 ∧ M1 22 1 = nI 0 ∧ M1 22 2 = nI 1 ∧ M1 22 3 = nI 0 ∧ M1 22 4 = nI 0 ∧ M1 22 5 = nI 0) → (∀ j, j < k → M1 26 j = nI 0 ∧ M1 27 j = nI 0 ∧ M1 28 j = nI 0) → fr 22 M M1 → Runs nX2_clear d Q 32 [some (.ref 22), some (.int (nI k))] [] M1 L := by
    intro m
    induction m with
    | zero =>
      intro k M1 hk h1 h2 hf
      have hk8 : k = 8 := by omega
      subst hk8
      refine wpH_runs oX2_clear 60 32 oX2_clear_32 ?_
      try simp (disch := omega) only [w_N, w_iconst, w_lcst, w_iload, w_lload, w_aload, m_i_s, m_l_s, m_a_s, w_istore, w_lstore, w_astore, w_iinc, w_iadd, w_isub, w_imul, w_iand, w_ior, w_ixor, w_ishl, w_ishr, w_iushr, w_idiv, w_irem, w_ineg, w_ladd, w_lsub, w_lmul, w_ldiv, w_lrem, w_lcmp, w_i2l, w_l2i, w_i2b, w_i2s, w_dupi, w_dupr, w_popi, w_popr, w_dup2, w_goto, w_cut, w_switch, sw_nil, sw_cons, w_iald, w_bald, w_zald, w_aald, w_iast, w_bast, w_zast, w_ireturn, w_zr0, w_zr1, w_lreturn, w_areturn, w_vreturn, w_cpy, w_mmax, w_mmin, w_sald, w_slen, sc_nil, sc_i, sc_r, sc_l, tl_s, tl_n, ls1, ls2, lk1, hd0, Int.reduceToNat, Nat.reduceAdd, Nat.reduceLeDiff, Nat.reduceMul, true_and, and_true, w_icmp_eq, w_icmp_ne, w_icmp_lt, w_icmp_ge, w_icmp_gt, w_icmp_le, w_if_eq, w_if_ne, w_if_lt, w_if_ge, w_if_gt, w_if_le, ki_0, ki_1, ki_2, li_2, ki_3, li_3, ki_4, li_4, ki_5, li_5, ki_6, li_6, ki_7, li_7, ki_8, li_8, ki_9, li_9, ki_10, li_10, ki_11, li_11, ki_12, li_12, ki_13, ki_14, li_14, ki_15, ki_16, li_16, ki_17, li_17, ki_18, li_18, ki_19, li_19, ki_20, li_20, ki_21, li_21, ki_22, ki_23, li_23, ki_24, li_24, ki_25, li_25, ki_26, li_26, ki_27, li_27, ki_28, li_28, ki_29, ki_30, li_30, ki_199, li_199, ki_200, ki_207, ki_214, ki_215, ki_216, li_216, ki_217, li_217, ki_218, li_218, ki_219, li_219, ki_220, li_220, ki_221, li_221, ki_222, ki_223, li_223, ki_224, li_224, ki_225, li_225, ki_226, li_226, ki_227, li_227, ki_228, li_228, ki_229, li_229, ki_230, ki_231, li_231, ki_232, ki_233, li_233, ki_234, li_234, ki_235, li_235, ki_236, li_236, ki_237, li_237, ki_238, li_238, ki_239, li_239, ki_240, li_240, ki_241, li_241, ki_242, li_242, ki_243, li_243, ki_244, li_244, ki_245, li_245, tX2_clear_0, kX2_clear_0, tX2_clear_32, kX2_clear_32, tX2_clear_87, kX2_clear_87, hX2_clear_32, ci_0, w_p64, w_p65, ci_1, w_p66, w_p67, w_p68, w_p69, ci_8, w_g70, w_g71, w_g72, w_g73, w_g74, w_g75, lg_0, lg_1, nI_leI]
      try simp only [cm_1, cm_1000000, cm_1000001, cm_1000002, cm_1000003, cm_1000010, cm_1000100, lm_1000001, lm_1000002]
      exact ⟨fun _ => hq M1 ⟨h1, fun j hj => absurd hj (Nat.not_lt_zero j), h2⟩ hf, fun z => absurd (by decide) z⟩
    | succ m ih =>
      intro k M1 hk h1 h2 hf
      refine wpH_runs oX2_clear 60 32 oX2_clear_32 ?_
      try simp (disch := omega) only [w_N, w_iconst, w_lcst, w_iload, w_lload, w_aload, m_i_s, m_l_s, m_a_s, w_istore, w_lstore, w_astore, w_iinc, w_iadd, w_isub, w_imul, w_iand, w_ior, w_ixor, w_ishl, w_ishr, w_iushr, w_idiv, w_irem, w_ineg, w_ladd, w_lsub, w_lmul, w_ldiv, w_lrem, w_lcmp, w_i2l, w_l2i, w_i2b, w_i2s, w_dupi, w_dupr, w_popi, w_popr, w_dup2, w_goto, w_cut, w_switch, sw_nil, sw_cons, w_iald, w_bald, w_zald, w_aald, w_iast, w_bast, w_zast, w_ireturn, w_zr0, w_zr1, w_lreturn, w_areturn, w_vreturn, w_cpy, w_mmax, w_mmin, w_sald, w_slen, sc_nil, sc_i, sc_r, sc_l, tl_s, tl_n, ls1, ls2, lk1, hd0, Int.reduceToNat, Nat.reduceAdd, Nat.reduceLeDiff, Nat.reduceMul, true_and, and_true, w_icmp_eq, w_icmp_ne, w_icmp_lt, w_icmp_ge, w_icmp_gt, w_icmp_le, w_if_eq, w_if_ne, w_if_lt, w_if_ge, w_if_gt, w_if_le, ki_0, ki_1, ki_2, li_2, ki_3, li_3, ki_4, li_4, ki_5, li_5, ki_6, li_6, ki_7, li_7, ki_8, li_8, ki_9, li_9, ki_10, li_10, ki_11, li_11, ki_12, li_12, ki_13, ki_14, li_14, ki_15, ki_16, li_16, ki_17, li_17, ki_18, li_18, ki_19, li_19, ki_20, li_20, ki_21, li_21, ki_22, ki_23, li_23, ki_24, li_24, ki_25, li_25, ki_26, li_26, ki_27, li_27, ki_28, li_28, ki_29, ki_30, li_30, ki_199, li_199, ki_200, ki_207, ki_214, ki_215, ki_216, li_216, ki_217, li_217, ki_218, li_218, ki_219, li_219, ki_220, li_220, ki_221, li_221, ki_222, ki_223, li_223, ki_224, li_224, ki_225, li_225, ki_226, li_226, ki_227, li_227, ki_228, li_228, ki_229, li_229, ki_230, ki_231, li_231, ki_232, ki_233, li_233, ki_234, li_234, ki_235, li_235, ki_236, li_236, ki_237, li_237, ki_238, li_238, ki_239, li_239, ki_240, li_240, ki_241, li_241, ki_242, li_242, ki_243, li_243, ki_244, li_244, ki_245, li_245, tX2_clear_0, kX2_clear_0, tX2_clear_32, kX2_clear_32, tX2_clear_87, kX2_clear_87, hX2_clear_32, ci_0, w_p64, w_p65, ci_1, w_p66, w_p67, w_p68, w_p69, ci_8, w_g70, w_g71, w_g72, w_g73, w_g74, w_g75, lg_0, lg_1, nI_leI, nI_add]
      try simp only [cm_1, cm_1000000, cm_1000001, cm_1000002, cm_1000003, cm_1000010, cm_1000100, lm_1000001, lm_1000002]
      refine ⟨fun z => absurd z (by omega), fun _ => exj (by omega) (exj (by omega) (exj (by omega) (exj (by omega) (exj (by omega) (exj (by omega) ?_)))))⟩
      refine ih (k + 1) _ (by omega) ?_ (fun j hj => ?_) ((((((hf.um (by decide) (by decide)).um (by decide) (by decide)).um (by decide) (by decide)).um (by decide) (by decide)).um (by decide) (by decide)).um (by decide) (by decide))
      · have e : ∀ (N : Mm) a v, 22 < a → um N a k v 22 = N 22 := fun N a v ha => um_ne _ _ _ _ (by omega)
        rw [e _ _ _ (by decide), e _ _ _ (by decide), e _ _ _ (by decide), e _ _ _ (by decide), e _ _ _ (by decide), e _ _ _ (by decide)]
        exact h1
      · have hj2 : j = k ∨ j < k := by omega
        have e : ∀ (N : Mm) a b v, b ≠ a → um N a k v b = N b := fun N a b v ha => um_ne _ _ _ _ ha
        refine ⟨?_, ?_, ?_⟩
        · rw [e _ 28 26 _ (by decide), e _ 27 26 _ (by decide), um_at]
          split
          · rfl
          · rw [e _ 25 26 _ (by decide), e _ 24 26 _ (by decide), e _ 23 26 _ (by decide)]; exact (h2 j (by omega)).1
        · rw [e _ 28 27 _ (by decide), um_at]
          split
          · rfl
          · rw [e _ 26 27 _ (by decide), e _ 25 27 _ (by decide), e _ 24 27 _ (by decide), e _ 23 27 _ (by decide)]; exact (h2 j (by omega)).2.1
        · rw [um_at]
          split
          · rfl
          · rw [e _ 27 28 _ (by decide), e _ 26 28 _ (by decide), e _ 25 28 _ (by decide), e _ 24 28 _ (by decide), e _ 23 28 _ (by decide)]; exact (h2 j (by omega)).2.2
  refine ⟨Or.inl zn0, ?_⟩
  refine loop 8 0 _ (by omega) ?_ (fun j hj => absurd hj (Nat.not_lt_zero j)) ?_
  · simp only [um_at]
    exact ⟨rfl, rfl, rfl, rfl, rfl, rfl⟩
  · exact fun x hx => by rw [um_ne _ _ _ _ (by omega), um_ne _ _ _ _ (by omega), um_ne _ _ _ _ (by omega), um_ne _ _ _ _ (by omega), um_ne _ _ _ _ (by omega), um_ne _ _ _ _ (by omega)]
theorem x_settle22 (h : dC M p mu pr K Lo Sl) (h1 : 3 ≤ p) (h2 : p ≤ 8) (hm : mu ≤ 7) (hk : okK p K Lo Sl) (hq : ∀ M', rC M' 22 (crc p mu pr K Lo Sl) → fr 22 M M' → Q none M' L) : Good (d + 1) nX2_settle [.ref 22] M L Q := by
  obtain ⟨⟨e0, e1, e2, e3, e4, e5⟩, hK, hZ⟩ := h
  have loop : ∀ m k (M1 : Mm), k + m = p → dC M1 p (if p ≤ mu then p - 1 else mu) pr K (loK p Lo k) Sl → fr 22 M M1 → Runs nX2_settle (d + 1) Q 23 [some (.ref 22), some (.int (nI k))] [] M1 L := by
    intro m
    induction m with
    | zero =>
      intro k M1 hk' g hf
      have hkp : k = p := by omega
      subst hkp
      obtain ⟨⟨f0, f1, f2, f3, f4, f5⟩, gK, gZ⟩ := g
      refine wpH_runs oX2_settle 60 23 oX2_settle_23 ?_
      try simp (disch := omega) only [w_N, w_iconst, w_lcst, w_iload, w_lload, w_aload, m_i_s, m_l_s, m_a_s, w_istore, w_lstore, w_astore, w_iinc, w_iadd, w_isub, w_imul, w_iand, w_ior, w_ixor, w_ishl, w_ishr, w_iushr, w_idiv, w_irem, w_ineg, w_ladd, w_lsub, w_lmul, w_ldiv, w_lrem, w_lcmp, w_i2l, w_l2i, w_i2b, w_i2s, w_dupi, w_dupr, w_popi, w_popr, w_dup2, w_goto, w_cut, w_switch, sw_nil, sw_cons, w_iald, w_bald, w_zald, w_aald, w_iast, w_bast, w_zast, w_ireturn, w_zr0, w_zr1, w_lreturn, w_areturn, w_vreturn, w_cpy, w_mmax, w_mmin, w_sald, w_slen, sc_nil, sc_i, sc_r, sc_l, tl_s, tl_n, ls1, ls2, lk1, hd0, Int.reduceToNat, Nat.reduceAdd, Nat.reduceLeDiff, Nat.reduceMul, true_and, and_true, w_icmp_eq, w_icmp_ne, w_icmp_lt, w_icmp_ge, w_icmp_gt, w_icmp_le, w_if_eq, w_if_ne, w_if_lt, w_if_ge, w_if_gt, w_if_le, ki_0, ki_1, ki_2, li_2, ki_3, li_3, ki_4, li_4, ki_5, li_5, ki_6, li_6, ki_7, li_7, ki_8, li_8, ki_9, li_9, ki_10, li_10, ki_11, li_11, ki_12, li_12, ki_13, ki_14, li_14, ki_15, ki_16, li_16, ki_17, li_17, ki_18, li_18, ki_19, li_19, ki_20, li_20, ki_21, li_21, ki_22, ki_23, li_23, ki_24, li_24, ki_25, li_25, ki_26, li_26, ki_27, li_27, ki_28, li_28, ki_29, ki_30, li_30, ki_199, li_199, ki_200, ki_207, ki_214, ki_215, ki_216, li_216, ki_217, li_217, ki_218, li_218, ki_219, li_219, ki_220, li_220, ki_221, li_221, ki_222, ki_223, li_223, ki_224, li_224, ki_225, li_225, ki_226, li_226, ki_227, li_227, ki_228, li_228, ki_229, li_229, ki_230, ki_231, li_231, ki_232, ki_233, li_233, ki_234, li_234, ki_235, li_235, ki_236, li_236, ki_237, li_237, ki_238, li_238, ki_239, li_239, ki_240, li_240, ki_241, li_241, ki_242, li_242, ki_243, li_243, ki_244, li_244, ki_245, li_245, tX2_settle_71, kX2_settle_71, hX2_settle_23, w_g65, w_g64, ci_1, w_p65, ci_0, w_g71, wc_X2_above, lg_0, lg_1, f0, nI_leI]
      try simp only [cm_1, cm_1000000, cm_1000001, cm_1000002, cm_1000003, cm_1000010, cm_1000100, lm_1000001, lm_1000002]
      refine ⟨fun _ => hq M1 ⟨fun x hx => ?_, fun f hf1 hf2 j hj => ?_⟩ hf, fun z => absurd (Nat.le_refl _) z⟩
      · rcases (show x = 0 ∨ x = 1 ∨ x = 2 ∨ x = 3 ∨ x = 4 ∨ x = 5 by omega) with rfl | rfl | rfl | rfl | rfl | rfl
        · exact f0
        · exact f1
        · exact f2
        · exact f3
        · exact f4
        · exact f5
      · have hj' : j < k := hj
        obtain ⟨a1, a2, a3⟩ := gK j hj'
        obtain ⟨z1, z2, z3⟩ := gZ j (by omega)
        rcases (show f = 6 ∨ f = 7 ∨ f = 8 ∨ f = 9 ∨ f = 10 ∨ f = 11 by omega) with rfl | rfl | rfl | rfl | rfl | rfl
        · exact a1
        · have hlt : crc k mu pr K Lo Sl 7 j = loK k Lo k j := by
            show (if k ≤ Lo j ∨ Lo j = j then abv k j else Lo j) = (if j < k then _ else _)
            rw [if_pos hj']
          have hb : loK k Lo k j < 99 := by
            have := (hk j hj').2.1
            have h3 := abv_lt (s := j) h1
            unfold loK
            rw [if_pos hj']
            split <;> omega
          rw [if_pos rfl, hlt, lkC_e (by omega)]
          exact a2
        · exact a3
        · exact z1
        · exact z2
        · exact z3
    | succ m ih =>
      intro k M1 hk' g hf
      obtain ⟨⟨f0, f1, f2, f3, f4, f5⟩, gK, gZ⟩ := id g
      have hLo := (hk k (by omega)).2.1
      have ek : loK p Lo k k = Lo k := if_neg (Nat.lt_irrefl _)
      have e24 : M1 24 k = nI (Lo k) := by rw [(gK k (by omega)).2.1, ek]
      have hset : ∀ v, v = (if p ≤ Lo k ∨ Lo k = k then abv p k else Lo k) → Runs nX2_settle (d + 1) Q 23 [some (.ref 22), some (.int (nI (k + 1)))] [] (um M1 24 k (nI v)) L := fun v hv => by
        refine ih (k + 1) _ (by omega) ⟨?_, fun j hj => ?_, fun j hj => ?_⟩ (hf.um (by decide) (by decide))
        · rw [um_ne _ _ _ _ (by decide)]; exact ⟨f0, f1, f2, f3, f4, f5⟩
        · obtain ⟨a1, a2, a3⟩ := gK j hj
          refine ⟨by rw [um_ne _ _ _ _ (by decide)]; exact a1, ?_, by rw [um_ne _ _ _ _ (by decide)]; exact a3⟩
          rw [um_at]
          by_cases q : j = k
          · rw [if_pos q, q, hv]
            show _ = nI (if k < k + 1 then _ else _)
            rw [if_pos (Nat.lt_succ_self k)]
          · rw [if_neg q, a2]
            unfold loK
            by_cases q2 : j < k
            · rw [if_pos q2, if_pos (show j < k + 1 by omega)]
            · rw [if_neg q2, if_neg (show ¬ j < k + 1 by omega)]
        · rw [um_ne _ _ _ _ (by decide), um_ne _ _ _ _ (by decide), um_ne _ _ _ _ (by decide)]
          exact gZ j hj
      have hsame : ¬ (p ≤ Lo k ∨ Lo k = k) → Runs nX2_settle (d + 1) Q 23 [some (.ref 22), some (.int (nI (k + 1)))] [] M1 L := fun q => by
        have := hset (Lo k) (by rw [if_neg q])
        rw [← e24, um_same] at this
        exact this
      have hab : rC M1 22 (crc p mu pr K Lo Sl) → True := fun _ => trivial
      have abv22 : ∀ (R : Qt), R (some (.int (nI (abv p k)))) M1 L → CallOk (d + 1) nX2_above [.ref 22, .int (nI k)] M1 L R := fun R hR => by
        refine callOk (Nat.lt_succ_self d) (eX2_above _ _ ?_)
        unfold abv at hR
        try simp (disch := omega) only [w_N, w_iconst, w_lcst, w_iload, w_lload, w_aload, m_i_s, m_l_s, m_a_s, w_istore, w_lstore, w_astore, w_iinc, w_iadd, w_isub, w_imul, w_iand, w_ior, w_ixor, w_ishl, w_ishr, w_iushr, w_idiv, w_irem, w_ineg, w_ladd, w_lsub, w_lmul, w_ldiv, w_lrem, w_lcmp, w_i2l, w_l2i, w_i2b, w_i2s, w_dupi, w_dupr, w_popi, w_popr, w_dup2, w_goto, w_cut, w_switch, sw_nil, sw_cons, w_iald, w_bald, w_zald, w_aald, w_iast, w_bast, w_zast, w_ireturn, w_zr0, w_zr1, w_lreturn, w_areturn, w_vreturn, w_cpy, w_mmax, w_mmin, w_sald, w_slen, sc_nil, sc_i, sc_r, sc_l, tl_s, tl_n, ls1, ls2, lk1, hd0, Int.reduceToNat, Nat.reduceAdd, Nat.reduceLeDiff, Nat.reduceMul, true_and, and_true, w_icmp_eq, w_icmp_ne, w_icmp_lt, w_icmp_ge, w_icmp_gt, w_icmp_le, w_if_eq, w_if_ne, w_if_lt, w_if_ge, w_if_gt, w_if_le, ki_0, ki_1, ki_2, li_2, ki_3, li_3, ki_4, li_4, ki_5, li_5, ki_6, li_6, ki_7, li_7, ki_8, li_8, ki_9, li_9, ki_10, li_10, ki_11, li_11, ki_12, li_12, ki_13, ki_14, li_14, ki_15, ki_16, li_16, ki_17, li_17, ki_18, li_18, ki_19, li_19, ki_20, li_20, ki_21, li_21, ki_22, ki_23, li_23, ki_24, li_24, ki_25, li_25, ki_26, li_26, ki_27, li_27, ki_28, li_28, ki_29, ki_30, li_30, ki_199, li_199, ki_200, ki_207, ki_214, ki_215, ki_216, li_216, ki_217, li_217, ki_218, li_218, ki_219, li_219, ki_220, li_220, ki_221, li_221, ki_222, ki_223, li_223, ki_224, li_224, ki_225, li_225, ki_226, li_226, ki_227, li_227, ki_228, li_228, ki_229, li_229, ki_230, ki_231, li_231, ki_232, ki_233, li_233, ki_234, li_234, ki_235, li_235, ki_236, li_236, ki_237, li_237, ki_238, li_238, ki_239, li_239, ki_240, li_240, ki_241, li_241, ki_242, li_242, ki_243, li_243, ki_244, li_244, ki_245, li_245, tX2_above_0, kX2_above_0, tX2_above_16, kX2_above_16, tX2_above_17, kX2_above_17, ci_1, w_g64, ci_0, lg_0, lg_1, f0, nI_add, nI_leI]
        try simp only [cm_1, cm_1000000, cm_1000001, cm_1000002, cm_1000003, cm_1000010, cm_1000100, lm_1000001, lm_1000002]
        refine ⟨fun z => ?_, fun z => ?_⟩
        · rw [if_neg (by omega)] at hR; exact hR
        · rw [if_pos (by omega)] at hR; exact hR
      refine wpH_runs oX2_settle 60 23 oX2_settle_23 ?_
      try simp (disch := omega) only [w_N, w_iconst, w_lcst, w_iload, w_lload, w_aload, m_i_s, m_l_s, m_a_s, w_istore, w_lstore, w_astore, w_iinc, w_iadd, w_isub, w_imul, w_iand, w_ior, w_ixor, w_ishl, w_ishr, w_iushr, w_idiv, w_irem, w_ineg, w_ladd, w_lsub, w_lmul, w_ldiv, w_lrem, w_lcmp, w_i2l, w_l2i, w_i2b, w_i2s, w_dupi, w_dupr, w_popi, w_popr, w_dup2, w_goto, w_cut, w_switch, sw_nil, sw_cons, w_iald, w_bald, w_zald, w_aald, w_iast, w_bast, w_zast, w_ireturn, w_zr0, w_zr1, w_lreturn, w_areturn, w_vreturn, w_cpy, w_mmax, w_mmin, w_sald, w_slen, sc_nil, sc_i, sc_r, sc_l, tl_s, tl_n, ls1, ls2, lk1, hd0, Int.reduceToNat, Nat.reduceAdd, Nat.reduceLeDiff, Nat.reduceMul, true_and, and_true, w_icmp_eq, w_icmp_ne, w_icmp_lt, w_icmp_ge, w_icmp_gt, w_icmp_le, w_if_eq, w_if_ne, w_if_lt, w_if_ge, w_if_gt, w_if_le, ki_0, ki_1, ki_2, li_2, ki_3, li_3, ki_4, li_4, ki_5, li_5, ki_6, li_6, ki_7, li_7, ki_8, li_8, ki_9, li_9, ki_10, li_10, ki_11, li_11, ki_12, li_12, ki_13, ki_14, li_14, ki_15, ki_16, li_16, ki_17, li_17, ki_18, li_18, ki_19, li_19, ki_20, li_20, ki_21, li_21, ki_22, ki_23, li_23, ki_24, li_24, ki_25, li_25, ki_26, li_26, ki_27, li_27, ki_28, li_28, ki_29, ki_30, li_30, ki_199, li_199, ki_200, ki_207, ki_214, ki_215, ki_216, li_216, ki_217, li_217, ki_218, li_218, ki_219, li_219, ki_220, li_220, ki_221, li_221, ki_222, ki_223, li_223, ki_224, li_224, ki_225, li_225, ki_226, li_226, ki_227, li_227, ki_228, li_228, ki_229, li_229, ki_230, ki_231, li_231, ki_232, ki_233, li_233, ki_234, li_234, ki_235, li_235, ki_236, li_236, ki_237, li_237, ki_238, li_238, ki_239, li_239, ki_240, li_240, ki_241, li_241, ki_242, li_242, ki_243, li_243, ki_244, li_244, ki_245, li_245, tX2_settle_54, kX2_settle_54, tX2_settle_65, kX2_settle_65, hX2_settle_23, w_g65, w_g64, ci_1, w_p65, ci_0, w_g71, wc_X2_above, lg_0, lg_1, f0, nI_leI, nI_add]
      try simp only [cm_1, cm_1000000, cm_1000001, cm_1000002, cm_1000003, cm_1000010, cm_1000100, lm_1000001, lm_1000002]
      refine ⟨fun z => absurd z (by omega), fun _ => exj (by omega) ?_⟩
      rw [e24]
      simp (disch := omega) only [nI_leI]
      refine ⟨fun z => abv22 _ ?_, fun z => exj (by omega) ?_⟩
      · try simp (disch := omega) only [w_N, w_iconst, w_lcst, w_iload, w_lload, w_aload, m_i_s, m_l_s, m_a_s, w_istore, w_lstore, w_astore, w_iinc, w_iadd, w_isub, w_imul, w_iand, w_ior, w_ixor, w_ishl, w_ishr, w_iushr, w_idiv, w_irem, w_ineg, w_ladd, w_lsub, w_lmul, w_ldiv, w_lrem, w_lcmp, w_i2l, w_l2i, w_i2b, w_i2s, w_dupi, w_dupr, w_popi, w_popr, w_dup2, w_goto, w_cut, w_switch, sw_nil, sw_cons, w_iald, w_bald, w_zald, w_aald, w_iast, w_bast, w_zast, w_ireturn, w_zr0, w_zr1, w_lreturn, w_areturn, w_vreturn, w_cpy, w_mmax, w_mmin, w_sald, w_slen, sc_nil, sc_i, sc_r, sc_l, tl_s, tl_n, ls1, ls2, lk1, hd0, Int.reduceToNat, Nat.reduceAdd, Nat.reduceLeDiff, Nat.reduceMul, true_and, and_true, w_icmp_eq, w_icmp_ne, w_icmp_lt, w_icmp_ge, w_icmp_gt, w_icmp_le, w_if_eq, w_if_ne, w_if_lt, w_if_ge, w_if_gt, w_if_le, ki_0, ki_1, ki_2, li_2, ki_3, li_3, ki_4, li_4, ki_5, li_5, ki_6, li_6, ki_7, li_7, ki_8, li_8, ki_9, li_9, ki_10, li_10, ki_11, li_11, ki_12, li_12, ki_13, ki_14, li_14, ki_15, ki_16, li_16, ki_17, li_17, ki_18, li_18, ki_19, li_19, ki_20, li_20, ki_21, li_21, ki_22, ki_23, li_23, ki_24, li_24, ki_25, li_25, ki_26, li_26, ki_27, li_27, ki_28, li_28, ki_29, ki_30, li_30, ki_199, li_199, ki_200, ki_207, ki_214, ki_215, ki_216, li_216, ki_217, li_217, ki_218, li_218, ki_219, li_219, ki_220, li_220, ki_221, li_221, ki_222, ki_223, li_223, ki_224, li_224, ki_225, li_225, ki_226, li_226, ki_227, li_227, ki_228, li_228, ki_229, li_229, ki_230, ki_231, li_231, ki_232, ki_233, li_233, ki_234, li_234, ki_235, li_235, ki_236, li_236, ki_237, li_237, ki_238, li_238, ki_239, li_239, ki_240, li_240, ki_241, li_241, ki_242, li_242, ki_243, li_243, ki_244, li_244, ki_245, li_245, hX2_settle_23, w_g65, w_g64, ci_1, w_p65, ci_0, w_g71, wc_X2_above, lg_0, lg_1, nI_add]
        try simp only [cm_1, cm_1000000, cm_1000001, cm_1000002, cm_1000003, cm_1000010, cm_1000100, lm_1000001, lm_1000002]
        refine exj (by omega) ?_
        exact hset (abv p k) (by rw [if_pos (Or.inl z)])
      · rw [e24]
        simp (disch := omega) only [nI_eq]
        refine ⟨fun y => hsame (by omega), fun y => abv22 _ ?_⟩
        try simp (disch := omega) only [w_N, w_iconst, w_lcst, w_iload, w_lload, w_aload, m_i_s, m_l_s, m_a_s, w_istore, w_lstore, w_astore, w_iinc, w_iadd, w_isub, w_imul, w_iand, w_ior, w_ixor, w_ishl, w_ishr, w_iushr, w_idiv, w_irem, w_ineg, w_ladd, w_lsub, w_lmul, w_ldiv, w_lrem, w_lcmp, w_i2l, w_l2i, w_i2b, w_i2s, w_dupi, w_dupr, w_popi, w_popr, w_dup2, w_goto, w_cut, w_switch, sw_nil, sw_cons, w_iald, w_bald, w_zald, w_aald, w_iast, w_bast, w_zast, w_ireturn, w_zr0, w_zr1, w_lreturn, w_areturn, w_vreturn, w_cpy, w_mmax, w_mmin, w_sald, w_slen, sc_nil, sc_i, sc_r, sc_l, tl_s, tl_n, ls1, ls2, lk1, hd0, Int.reduceToNat, Nat.reduceAdd, Nat.reduceLeDiff, Nat.reduceMul, true_and, and_true, w_icmp_eq, w_icmp_ne, w_icmp_lt, w_icmp_ge, w_icmp_gt, w_icmp_le, w_if_eq, w_if_ne, w_if_lt, w_if_ge, w_if_gt, w_if_le, ki_0, ki_1, ki_2, li_2, ki_3, li_3, ki_4, li_4, ki_5, li_5, ki_6, li_6, ki_7, li_7, ki_8, li_8, ki_9, li_9, ki_10, li_10, ki_11, li_11, ki_12, li_12, ki_13, ki_14, li_14, ki_15, ki_16, li_16, ki_17, li_17, ki_18, li_18, ki_19, li_19, ki_20, li_20, ki_21, li_21, ki_22, ki_23, li_23, ki_24, li_24, ki_25, li_25, ki_26, li_26, ki_27, li_27, ki_28, li_28, ki_29, ki_30, li_30, ki_199, li_199, ki_200, ki_207, ki_214, ki_215, ki_216, li_216, ki_217, li_217, ki_218, li_218, ki_219, li_219, ki_220, li_220, ki_221, li_221, ki_222, ki_223, li_223, ki_224, li_224, ki_225, li_225, ki_226, li_226, ki_227, li_227, ki_228, li_228, ki_229, li_229, ki_230, ki_231, li_231, ki_232, ki_233, li_233, ki_234, li_234, ki_235, li_235, ki_236, li_236, ki_237, li_237, ki_238, li_238, ki_239, li_239, ki_240, li_240, ki_241, li_241, ki_242, li_242, ki_243, li_243, ki_244, li_244, ki_245, li_245, hX2_settle_23, w_g65, w_g64, ci_1, w_p65, ci_0, w_g71, wc_X2_above, lg_0, lg_1, nI_add]
        try simp only [cm_1, cm_1000000, cm_1000001, cm_1000002, cm_1000003, cm_1000010, cm_1000100, lm_1000001, lm_1000002]
        refine exj (by omega) ?_
        exact hset (abv p k) (by rw [if_pos (Or.inr y)])
  refine eX2_settle _ ?_
  try simp (disch := omega) only [w_N, w_iconst, w_lcst, w_iload, w_lload, w_aload, m_i_s, m_l_s, m_a_s, w_istore, w_lstore, w_astore, w_iinc, w_iadd, w_isub, w_imul, w_iand, w_ior, w_ixor, w_ishl, w_ishr, w_iushr, w_idiv, w_irem, w_ineg, w_ladd, w_lsub, w_lmul, w_ldiv, w_lrem, w_lcmp, w_i2l, w_l2i, w_i2b, w_i2s, w_dupi, w_dupr, w_popi, w_popr, w_dup2, w_goto, w_cut, w_switch, sw_nil, sw_cons, w_iald, w_bald, w_zald, w_aald, w_iast, w_bast, w_zast, w_ireturn, w_zr0, w_zr1, w_lreturn, w_areturn, w_vreturn, w_cpy, w_mmax, w_mmin, w_sald, w_slen, sc_nil, sc_i, sc_r, sc_l, tl_s, tl_n, ls1, ls2, lk1, hd0, Int.reduceToNat, Nat.reduceAdd, Nat.reduceLeDiff, Nat.reduceMul, true_and, and_true, w_icmp_eq, w_icmp_ne, w_icmp_lt, w_icmp_ge, w_icmp_gt, w_icmp_le, w_if_eq, w_if_ne, w_if_lt, w_if_ge, w_if_gt, w_if_le, ki_0, ki_1, ki_2, li_2, ki_3, li_3, ki_4, li_4, ki_5, li_5, ki_6, li_6, ki_7, li_7, ki_8, li_8, ki_9, li_9, ki_10, li_10, ki_11, li_11, ki_12, li_12, ki_13, ki_14, li_14, ki_15, ki_16, li_16, ki_17, li_17, ki_18, li_18, ki_19, li_19, ki_20, li_20, ki_21, li_21, ki_22, ki_23, li_23, ki_24, li_24, ki_25, li_25, ki_26, li_26, ki_27, li_27, ki_28, li_28, ki_29, ki_30, li_30, ki_199, li_199, ki_200, ki_207, ki_214, ki_215, ki_216, li_216, ki_217, li_217, ki_218, li_218, ki_219, li_219, ki_220, li_220, ki_221, li_221, ki_222, ki_223, li_223, ki_224, li_224, ki_225, li_225, ki_226, li_226, ki_227, li_227, ki_228, li_228, ki_229, li_229, ki_230, ki_231, li_231, ki_232, ki_233, li_233, ki_234, li_234, ki_235, li_235, ki_236, li_236, ki_237, li_237, ki_238, li_238, ki_239, li_239, ki_240, li_240, ki_241, li_241, ki_242, li_242, ki_243, li_243, ki_244, li_244, ki_245, li_245, tX2_settle_0, kX2_settle_0, tX2_settle_21, kX2_settle_21, hX2_settle_23, w_g65, w_g64, ci_1, w_p65, ci_0, w_g71, wc_X2_above, lg_0, lg_1, e0, e1, nI_ltI, pk_sub]
  try simp only [cm_1, cm_1000000, cm_1000001, cm_1000002, cm_1000003, cm_1000010, cm_1000100, lm_1000001, lm_1000002]
  have l0 : loK p Lo 0 = Lo := by funext j; exact if_neg (Nat.not_lt_zero j)
  refine ⟨fun z => ?_, fun z => ?_⟩
  · refine loop p 0 M (by omega) ?_ fr.rf
    rw [l0, if_neg (by omega)]
    exact ⟨⟨e0, e1, e2, e3, e4, e5⟩, hK, hZ⟩
  · refine loop p 0 _ (by omega) ?_ (fr.rf.um (by decide) (by decide))
    rw [l0, if_pos (by omega)]
    refine ⟨⟨?_, ?_, ?_, ?_, ?_, ?_⟩, fun j hj => ?_, fun j hj => ?_⟩
    · rw [um_at, if_neg (by decide)]; exact e0
    · rw [um_at, if_pos rfl]
    · rw [um_at, if_neg (by decide)]; exact e2
    · rw [um_at, if_neg (by decide)]; exact e3
    · rw [um_at, if_neg (by decide)]; exact e4
    · rw [um_at, if_neg (by decide)]; exact e5
    · rw [um_ne _ _ _ _ (by decide), um_ne _ _ _ _ (by decide), um_ne _ _ _ _ (by decide)]; exact hK j hj
    · rw [um_ne _ _ _ _ (by decide), um_ne _ _ _ _ (by decide), um_ne _ _ _ _ (by decide)]; exact hZ j hj
end
