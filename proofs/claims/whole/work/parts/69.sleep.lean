/-! sleepers -/
def ppK (s k : Nat) : Nat := smK (fun i => s / 2 ^ i % 2) k
def wyK (my s p : Nat) : Nat → Nat
  | 0 => 1
  | k + 1 => wyK my s p k * (if my / 2 ^ k % 2 = 1 then (if s / 2 ^ k % 2 = 1 then p else 10 - p) else 1)
def dnK (my : Nat) : Nat → Nat
  | 0 => 1
  | k + 1 => dnK my k * (if my / 2 ^ k % 2 = 1 then 10 else 1)
theorem ppK_s {s k : Nat} : ppK s (k + 1) = ppK s k + s / 2 ^ k % 2 := rfl
theorem ppK_le {s : Nat} : ∀ k, ppK s k ≤ k
  | 0 => Nat.le_refl _
  | k + 1 => by have := ppK_le (s := s) k; have h2 : s / 2 ^ k % 2 < 2 := Nat.mod_lt _ (by decide); rw [ppK_s]; omega
theorem ppK_mono {my s : Nat} (h : ∀ j, s / 2 ^ j % 2 = 1 → my / 2 ^ j % 2 = 1) : ∀ k, ppK s k ≤ ppK my k
  | 0 => Nat.le_refl _
  | k + 1 => by
    have ih := ppK_mono h k
    have h2 : s / 2 ^ k % 2 < 2 := Nat.mod_lt _ (by decide)
    have h3 := h k
    rw [ppK_s, ppK_s]; omega
theorem wyK_e {my s p : Nat} (h : ∀ j, s / 2 ^ j % 2 = 1 → my / 2 ^ j % 2 = 1) : ∀ k, wyK my s p k = p ^ ppK s k * (10 - p) ^ (ppK my k - ppK s k)
  | 0 => rfl
  | k + 1 => by
    have ih := wyK_e (p := p) h k
    have hm := ppK_mono h k
    have h2 : s / 2 ^ k % 2 < 2 := Nat.mod_lt _ (by decide)
    have h2' : my / 2 ^ k % 2 < 2 := Nat.mod_lt _ (by decide)
    have h3 := h k
    rw [ppK_s, ppK_s]
    unfold wyK
    rw [ih]
    by_cases q1 : my / 2 ^ k % 2 = 1
    · rw [if_pos q1]
      by_cases q2 : s / 2 ^ k % 2 = 1
      · rw [if_pos q2, q1, q2, Nat.pow_succ, show ppK my k + 1 - (ppK s k + 1) = ppK my k - ppK s k by omega, Nat.mul_right_comm]
      · rw [if_neg q2, q1, show s / 2 ^ k % 2 = 0 by omega, Nat.add_zero, show ppK my k + 1 - ppK s k = (ppK my k - ppK s k) + 1 by omega, Nat.pow_succ, Nat.mul_assoc]
    · have q2 : ¬ s / 2 ^ k % 2 = 1 := fun q => q1 (h3 q)
      rw [if_neg q1, show my / 2 ^ k % 2 = 0 by omega, show s / 2 ^ k % 2 = 0 by omega, Nat.mul_one, Nat.add_zero, Nat.add_zero]
theorem dnK_e {my : Nat} : ∀ k, dnK my k = 10 ^ ppK my k
  | 0 => rfl
  | k + 1 => by
    have h2' : my / 2 ^ k % 2 < 2 := Nat.mod_lt _ (by decide)
    rw [ppK_s]
    unfold dnK
    rw [dnK_e k]
    by_cases q1 : my / 2 ^ k % 2 = 1
    · rw [if_pos q1, q1, Nat.pow_succ]
    · rw [if_neg q1, show my / 2 ^ k % 2 = 0 by omega, Nat.mul_one, Nat.add_zero]
theorem ppK_8 {s P : Nat} (hs : s < 2 ^ P) : ∀ m, ppK s (P + m) = ppK s P
  | 0 => rfl
  | m + 1 => by
    rw [show P + (m + 1) = (P + m) + 1 from rfl, ppK_s, ppK_8 hs m, Nat.div_eq_of_lt (Nat.lt_of_lt_of_le hs (Nat.pow_le_pow_right (by decide) (by omega))), Nat.zero_mod, Nat.add_zero]
theorem sub_bits {s my : Nat} (hs : s < 256) (h : s &&& (255 ^^^ my) = 0) : ∀ j, s / 2 ^ j % 2 = 1 → my / 2 ^ j % 2 = 1 := by
  rw [tb_and0] at h
  intro j hj
  have tb : ∀ a : Nat, a.testBit j = decide (a / 2 ^ j % 2 = 1) := fun a => Nat.testBit_eq_decide_div_mod_eq
  have h1 : s.testBit j = true := by rw [tb]; exact decide_eq_true hj
  have hj8 := tb_lt (P := 8) hs h1
  have h255 : (255 : Nat).testBit j = true := by
    have := @Nat.testBit_two_pow_sub_one 8 j
    rw [show (2 ^ 8 - 1 : Nat) = 255 from rfl] at this
    rw [this]; exact decide_eq_true hj8
  have h2 := h j h1
  rw [Nat.testBit_xor, h255] at h2
  have h3 : my.testBit j = true := by cases q : my.testBit j with
    | false => rw [q] at h2; exact absurd h2 (by decide)
    | true => rfl
  rw [tb] at h3
  exact of_decide_eq_true h3
theorem sub_le {s my : Nat} (hs : s < 256) (h : s &&& (255 ^^^ my) = 0) : s ≤ my := by
  have hb := sub_bits hs h
  have : my &&& s = s := by
    refine Nat.eq_of_testBit_eq fun j => ?_
    rw [Nat.testBit_and]
    cases q : s.testBit j with
    | false => rw [Bool.and_false]
    | true =>
      have q' := q
      rw [Nat.testBit_eq_decide_div_mod_eq] at q'
      rw [Nat.testBit_eq_decide_div_mod_eq, decide_eq_true (hb j (of_decide_eq_true q'))]; rfl
  rw [← this]; exact Nat.and_le_left
/-! Euclid -/
def euF : Nat → Nat → Nat → Nat
  | 0, a, _ => a
  | m + 1, a, b => if b = 0 then a else euF m b (a % b)
theorem euF_0 : ∀ m a, euF m a 0 = a
  | 0, _ => rfl
  | _ + 1, _ => if_pos rfl
theorem euF_g : ∀ k m a b, b < 2 ^ k → 2 * k ≤ m → euF m a b = Nat.gcd a b
  | 0, m, a, b, hb, _ => by
    have : b = 0 := by rw [Nat.pow_zero] at hb; omega
    rw [this, euF_0, Nat.gcd_zero_right]
  | k + 1, m, a, b, hb, hm => by
    by_cases q : b = 0
    · rw [q, euF_0, Nat.gcd_zero_right]
    · obtain ⟨m', rfl⟩ : ∃ m', m = m' + 2 := ⟨m - 2, by omega⟩
      have e1 : Nat.gcd a b = Nat.gcd b (a % b) := by rw [Nat.gcd_comm a b, Nat.gcd_rec b a, Nat.gcd_comm]
      show (if b = 0 then a else if a % b = 0 then b else euF m' (a % b) (b % (a % b))) = _
      rw [if_neg q, e1]
      by_cases q2 : a % b = 0
      · rw [if_pos q2, q2, Nat.gcd_zero_right]
      · have hr : a % b < b := Nat.mod_lt _ (by omega)
        have hr2 : b % (a % b) < a % b := Nat.mod_lt _ (by omega)
        have hr3 : b % (a % b) ≤ b - a % b := by rw [Nat.mod_eq_sub_mod (by omega)]; exact Nat.mod_le _ _
        rw [if_neg q2, euF_g k m' _ _ (by rw [Nat.pow_succ] at hb; omega) (by omega), Nat.gcd_comm b (a % b), Nat.gcd_rec (a % b) b, Nat.gcd_comm]
/-! found out, asleep -/
theorem tk_4 {C : Ci} (h : C 4 0 = 1) : tk C 4 0 = 1 := by
  unfold tk
  rw [cu_ne (by decide), fdK_ne (by decide) (by decide) (by decide)]
  unfold wk
  have h' : lkK C (C 0 0) 4 0 = 1 := h
  rw [if_pos (Or.inl h')]
  exact h'
theorem tkN_4 : ∀ m {C : Ci}, C 4 0 = 1 → tkN m C 4 0 = 1
  | 0, _, h => h
  | m + 1, _, h => tkN_4 m (tk_4 h)
theorem wf_as {C : Ci} (h : wf C) {s : Nat} (hs : s < 256) : wf (cu C 5 0 s) := ⟨h.1, h.2.1, h.2.2.1, h.2.2.2.1, hs, h.2.2.2.2.2⟩
theorem bc_256 : ∀ a, a < 256 → ppK a 8 ≤ 8 := fun a _ => ppK_le 8
section
variable {d : Nat} {M : Mm} {L : Ml} {Q : Qt} {C : Ci}
theorem x_power {b n : Nat} (hn : n < 100) (hq : Q (some (.long (lN (b ^ n)))) M L) : Good d nX4_power [.long (lN b), .int (nI n)] M L Q := by
  refine eX4_power _ _ ?_
  try simp (disch := omega) only [w_N, w_iconst, w_lcst, w_iload, w_lload, w_aload, m_i_s, m_l_s, m_a_s, w_istore, w_lstore, w_astore, w_iinc, w_iadd, w_isub, w_imul, w_iand, w_ior, w_ixor, w_ishl, w_ishr, w_iushr, w_idiv, w_irem, w_ineg, w_ladd, w_lsub, w_lmul, w_ldiv, w_lrem, w_lcmp, w_i2l, w_l2i, w_i2b, w_i2s, w_dupi, w_dupr, w_popi, w_popr, w_dup2, w_goto, w_cut, w_switch, sw_nil, sw_cons, w_iald, w_bald, w_zald, w_aald, w_iast, w_bast, w_zast, w_ireturn, w_zr0, w_zr1, w_lreturn, w_areturn, w_vreturn, w_cpy, w_mmax, w_mmin, w_sald, w_slen, sc_nil, sc_i, sc_r, sc_l, tl_s, tl_n, ls1, ls2, lk1, hd0, Int.reduceToNat, Nat.reduceAdd, Nat.reduceLeDiff, Nat.reduceMul, true_and, and_true, w_icmp_eq, w_icmp_ne, w_icmp_lt, w_icmp_ge, w_icmp_gt, w_icmp_le, w_if_eq, w_if_ne, w_if_lt, w_if_ge, w_if_gt, w_if_le, ki_0, ki_1, ki_2, li_2, ki_3, li_3, ki_4, li_4, ki_5, li_5, ki_6, li_6, ki_7, li_7, ki_8, li_8, ki_9, li_9, ki_10, li_10, ki_11, li_11, ki_12, li_12, ki_13, ki_14, li_14, ki_15, ki_16, li_16, ki_17, li_17, ki_18, li_18, ki_19, li_19, ki_20, li_20, ki_21, li_21, ki_22, ki_23, li_23, ki_24, li_24, ki_25, li_25, ki_26, li_26, ki_27, li_27, ki_28, li_28, ki_29, ki_30, li_30, ki_199, li_199, ki_200, ki_207, ki_214, ki_215, ki_216, li_216, ki_217, li_217, ki_218, li_218, ki_219, li_219, ki_220, li_220, ki_221, li_221, ki_222, ki_223, li_223, ki_224, li_224, ki_225, li_225, ki_226, li_226, ki_227, li_227, ki_228, li_228, ki_229, li_229, ki_230, ki_231, li_231, ki_232, ki_233, li_233, ki_234, li_234, ki_235, li_235, ki_236, li_236, ki_237, li_237, ki_238, li_238, ki_239, li_239, ki_240, li_240, ki_241, li_241, ki_242, li_242, ki_243, li_243, ki_244, li_244, ki_245, li_245, tX4_power_0, kX4_power_0, tX4_power_5, kX4_power_5, tX4_power_21, kX4_power_21, hX4_power_5, cl_1, ci_0, ci_1, lg_0, lg_1, lg_2, lg_3, lg_4, lg_5]
  try simp only [cm_1, cm_1000000, cm_1000001, cm_1000002, cm_1000003, cm_1000010, cm_1000100, lm_1000001, lm_1000002]
  have loop : ∀ m k, k + m = n → Runs nX4_power d Q 5 [some (.long (lN b)), none, some (.int (nI n)), some (.long (lN (b ^ k))), none, some (.int (nI k))] [] M L := by
    intro m
    induction m with
    | zero =>
      intro k hk
      have hkn : k = n := by omega
      subst hkn
      refine wpH_runs oX4_power 60 5 oX4_power_5 ?_
      try simp (disch := omega) only [w_N, w_iconst, w_lcst, w_iload, w_lload, w_aload, m_i_s, m_l_s, m_a_s, w_istore, w_lstore, w_astore, w_iinc, w_iadd, w_isub, w_imul, w_iand, w_ior, w_ixor, w_ishl, w_ishr, w_iushr, w_idiv, w_irem, w_ineg, w_ladd, w_lsub, w_lmul, w_ldiv, w_lrem, w_lcmp, w_i2l, w_l2i, w_i2b, w_i2s, w_dupi, w_dupr, w_popi, w_popr, w_dup2, w_goto, w_cut, w_switch, sw_nil, sw_cons, w_iald, w_bald, w_zald, w_aald, w_iast, w_bast, w_zast, w_ireturn, w_zr0, w_zr1, w_lreturn, w_areturn, w_vreturn, w_cpy, w_mmax, w_mmin, w_sald, w_slen, sc_nil, sc_i, sc_r, sc_l, tl_s, tl_n, ls1, ls2, lk1, hd0, Int.reduceToNat, Nat.reduceAdd, Nat.reduceLeDiff, Nat.reduceMul, true_and, and_true, w_icmp_eq, w_icmp_ne, w_icmp_lt, w_icmp_ge, w_icmp_gt, w_icmp_le, w_if_eq, w_if_ne, w_if_lt, w_if_ge, w_if_gt, w_if_le, ki_0, ki_1, ki_2, li_2, ki_3, li_3, ki_4, li_4, ki_5, li_5, ki_6, li_6, ki_7, li_7, ki_8, li_8, ki_9, li_9, ki_10, li_10, ki_11, li_11, ki_12, li_12, ki_13, ki_14, li_14, ki_15, ki_16, li_16, ki_17, li_17, ki_18, li_18, ki_19, li_19, ki_20, li_20, ki_21, li_21, ki_22, ki_23, li_23, ki_24, li_24, ki_25, li_25, ki_26, li_26, ki_27, li_27, ki_28, li_28, ki_29, ki_30, li_30, ki_199, li_199, ki_200, ki_207, ki_214, ki_215, ki_216, li_216, ki_217, li_217, ki_218, li_218, ki_219, li_219, ki_220, li_220, ki_221, li_221, ki_222, ki_223, li_223, ki_224, li_224, ki_225, li_225, ki_226, li_226, ki_227, li_227, ki_228, li_228, ki_229, li_229, ki_230, ki_231, li_231, ki_232, ki_233, li_233, ki_234, li_234, ki_235, li_235, ki_236, li_236, ki_237, li_237, ki_238, li_238, ki_239, li_239, ki_240, li_240, ki_241, li_241, ki_242, li_242, ki_243, li_243, ki_244, li_244, ki_245, li_245, tX4_power_0, kX4_power_0, tX4_power_5, kX4_power_5, tX4_power_21, kX4_power_21, hX4_power_5, cl_1, ci_0, ci_1, lg_0, lg_1, lg_2, lg_3, lg_4, lg_5, nI_leI]
      try simp only [cm_1, cm_1000000, cm_1000001, cm_1000002, cm_1000003, cm_1000010, cm_1000100, lm_1000001, lm_1000002]
      exact ⟨fun _ => hq, fun z => absurd (Nat.le_refl _) z⟩
    | succ m ih =>
      intro k hk
      refine wpH_runs oX4_power 60 5 oX4_power_5 ?_
      try simp (disch := omega) only [w_N, w_iconst, w_lcst, w_iload, w_lload, w_aload, m_i_s, m_l_s, m_a_s, w_istore, w_lstore, w_astore, w_iinc, w_iadd, w_isub, w_imul, w_iand, w_ior, w_ixor, w_ishl, w_ishr, w_iushr, w_idiv, w_irem, w_ineg, w_ladd, w_lsub, w_lmul, w_ldiv, w_lrem, w_lcmp, w_i2l, w_l2i, w_i2b, w_i2s, w_dupi, w_dupr, w_popi, w_popr, w_dup2, w_goto, w_cut, w_switch, sw_nil, sw_cons, w_iald, w_bald, w_zald, w_aald, w_iast, w_bast, w_zast, w_ireturn, w_zr0, w_zr1, w_lreturn, w_areturn, w_vreturn, w_cpy, w_mmax, w_mmin, w_sald, w_slen, sc_nil, sc_i, sc_r, sc_l, tl_s, tl_n, ls1, ls2, lk1, hd0, Int.reduceToNat, Nat.reduceAdd, Nat.reduceLeDiff, Nat.reduceMul, true_and, and_true, w_icmp_eq, w_icmp_ne, w_icmp_lt, w_icmp_ge, w_icmp_gt, w_icmp_le, w_if_eq, w_if_ne, w_if_lt, w_if_ge, w_if_gt, w_if_le, ki_0, ki_1, ki_2, li_2, ki_3, li_3, ki_4, li_4, ki_5, li_5, ki_6, li_6, ki_7, li_7, ki_8, li_8, ki_9, li_9, ki_10, li_10, ki_11, li_11, ki_12, li_12, ki_13, ki_14, li_14, ki_15, ki_16, li_16, ki_17, li_17, ki_18, li_18, ki_19, li_19, ki_20, li_20, ki_21, li_21, ki_22, ki_23, li_23, ki_24, li_24, ki_25, li_25, ki_26, li_26, ki_27, li_27, ki_28, li_28, ki_29, ki_30, li_30, ki_199, li_199, ki_200, ki_207, ki_214, ki_215, ki_216, li_216, ki_217, li_217, ki_218, li_218, ki_219, li_219, ki_220, li_220, ki_221, li_221, ki_222, ki_223, li_223, ki_224, li_224, ki_225, li_225, ki_226, li_226, ki_227, li_227, ki_228, li_228, ki_229, li_229, ki_230, ki_231, li_231, ki_232, ki_233, li_233, ki_234, li_234, ki_235, li_235, ki_236, li_236, ki_237, li_237, ki_238, li_238, ki_239, li_239, ki_240, li_240, ki_241, li_241, ki_242, li_242, ki_243, li_243, ki_244, li_244, ki_245, li_245, tX4_power_0, kX4_power_0, tX4_power_5, kX4_power_5, tX4_power_21, kX4_power_21, hX4_power_5, cl_1, ci_0, ci_1, lg_0, lg_1, lg_2, lg_3, lg_4, lg_5, nI_leI, lN_mul, nI_add]
      try simp only [cm_1, cm_1000000, cm_1000001, cm_1000002, cm_1000003, cm_1000010, cm_1000100, lm_1000001, lm_1000002]
      refine ⟨fun z => absurd z (by omega), fun _ => ?_⟩
      rw [← Nat.pow_succ]
      exact ih (k + 1) (by omega)
  exact loop n 0 (by omega)
theorem x_isFoundThough (h : rC M 15 C) (hw : wf C) (h3 : C 3 0 < 2000) {s n : Nat} (hs : s < 256) (hn : n ≤ 60) (hq : ∀ M', fr 215 M M' → Q (some (.int (nI (tkN n (cu C 5 0 s) 4 0)))) M' L) : Good (d + 4) nX4_isFoundThough [.ref 214, .ref 15, .int (nI s), .int (nI n)] M L Q := by
  refine eX4_isFoundThough _ _ _ _ ?_
  try simp (disch := omega) only [w_N, w_iconst, w_lcst, w_iload, w_lload, w_aload, m_i_s, m_l_s, m_a_s, w_istore, w_lstore, w_astore, w_iinc, w_iadd, w_isub, w_imul, w_iand, w_ior, w_ixor, w_ishl, w_ishr, w_iushr, w_idiv, w_irem, w_ineg, w_ladd, w_lsub, w_lmul, w_ldiv, w_lrem, w_lcmp, w_i2l, w_l2i, w_i2b, w_i2s, w_dupi, w_dupr, w_popi, w_popr, w_dup2, w_goto, w_cut, w_switch, sw_nil, sw_cons, w_iald, w_bald, w_zald, w_aald, w_iast, w_bast, w_zast, w_ireturn, w_zr0, w_zr1, w_lreturn, w_areturn, w_vreturn, w_cpy, w_mmax, w_mmin, w_sald, w_slen, sc_nil, sc_i, sc_r, sc_l, tl_s, tl_n, ls1, ls2, lk1, hd0, Int.reduceToNat, Nat.reduceAdd, Nat.reduceLeDiff, Nat.reduceMul, true_and, and_true, w_icmp_eq, w_icmp_ne, w_icmp_lt, w_icmp_ge, w_icmp_gt, w_icmp_le, w_if_eq, w_if_ne, w_if_lt, w_if_ge, w_if_gt, w_if_le, ki_0, ki_1, ki_2, li_2, ki_3, li_3, ki_4, li_4, ki_5, li_5, ki_6, li_6, ki_7, li_7, ki_8, li_8, ki_9, li_9, ki_10, li_10, ki_11, li_11, ki_12, li_12, ki_13, ki_14, li_14, ki_15, ki_16, li_16, ki_17, li_17, ki_18, li_18, ki_19, li_19, ki_20, li_20, ki_21, li_21, ki_22, ki_23, li_23, ki_24, li_24, ki_25, li_25, ki_26, li_26, ki_27, li_27, ki_28, li_28, ki_29, ki_30, li_30, ki_199, li_199, ki_200, ki_207, ki_214, ki_215, ki_216, li_216, ki_217, li_217, ki_218, li_218, ki_219, li_219, ki_220, li_220, ki_221, li_221, ki_222, ki_223, li_223, ki_224, li_224, ki_225, li_225, ki_226, li_226, ki_227, li_227, ki_228, li_228, ki_229, li_229, ki_230, ki_231, li_231, ki_232, ki_233, li_233, ki_234, li_234, ki_235, li_235, ki_236, li_236, ki_237, li_237, ki_238, li_238, ki_239, li_239, ki_240, li_240, ki_241, li_241, ki_242, li_242, ki_243, li_243, ki_244, li_244, ki_245, li_245, tX4_isFoundThough_0, kX4_isFoundThough_0, tX4_isFoundThough_19, kX4_isFoundThough_19, tX4_isFoundThough_48, kX4_isFoundThough_48, hX4_isFoundThough_19, w_g128, wc_X2_takeFrom, w_p69, ci_0, w_g68, wc_X2_passTick, ci_1, lg_0, lg_1, lg_2, lg_3, lg_4]
  try simp only [cm_1, cm_1000000, cm_1000001, cm_1000002, cm_1000003, cm_1000010, cm_1000100, lm_1000001, lm_1000002]
  refine callOk (show d < d + 4 by omega) (x_takeC isC_215 isC_15 (by decide) h hw fun M1 g1 f1 => ?_)
  try simp (disch := omega) only [w_N, w_iconst, w_lcst, w_iload, w_lload, w_aload, m_i_s, m_l_s, m_a_s, w_istore, w_lstore, w_astore, w_iinc, w_iadd, w_isub, w_imul, w_iand, w_ior, w_ixor, w_ishl, w_ishr, w_iushr, w_idiv, w_irem, w_ineg, w_ladd, w_lsub, w_lmul, w_ldiv, w_lrem, w_lcmp, w_i2l, w_l2i, w_i2b, w_i2s, w_dupi, w_dupr, w_popi, w_popr, w_dup2, w_goto, w_cut, w_switch, sw_nil, sw_cons, w_iald, w_bald, w_zald, w_aald, w_iast, w_bast, w_zast, w_ireturn, w_zr0, w_zr1, w_lreturn, w_areturn, w_vreturn, w_cpy, w_mmax, w_mmin, w_sald, w_slen, sc_nil, sc_i, sc_r, sc_l, tl_s, tl_n, ls1, ls2, lk1, hd0, Int.reduceToNat, Nat.reduceAdd, Nat.reduceLeDiff, Nat.reduceMul, true_and, and_true, w_icmp_eq, w_icmp_ne, w_icmp_lt, w_icmp_ge, w_icmp_gt, w_icmp_le, w_if_eq, w_if_ne, w_if_lt, w_if_ge, w_if_gt, w_if_le, ki_0, ki_1, ki_2, li_2, ki_3, li_3, ki_4, li_4, ki_5, li_5, ki_6, li_6, ki_7, li_7, ki_8, li_8, ki_9, li_9, ki_10, li_10, ki_11, li_11, ki_12, li_12, ki_13, ki_14, li_14, ki_15, ki_16, li_16, ki_17, li_17, ki_18, li_18, ki_19, li_19, ki_20, li_20, ki_21, li_21, ki_22, ki_23, li_23, ki_24, li_24, ki_25, li_25, ki_26, li_26, ki_27, li_27, ki_28, li_28, ki_29, ki_30, li_30, ki_199, li_199, ki_200, ki_207, ki_214, ki_215, ki_216, li_216, ki_217, li_217, ki_218, li_218, ki_219, li_219, ki_220, li_220, ki_221, li_221, ki_222, ki_223, li_223, ki_224, li_224, ki_225, li_225, ki_226, li_226, ki_227, li_227, ki_228, li_228, ki_229, li_229, ki_230, ki_231, li_231, ki_232, ki_233, li_233, ki_234, li_234, ki_235, li_235, ki_236, li_236, ki_237, li_237, ki_238, li_238, ki_239, li_239, ki_240, li_240, ki_241, li_241, ki_242, li_242, ki_243, li_243, ki_244, li_244, ki_245, li_245, tX4_isFoundThough_0, kX4_isFoundThough_0, tX4_isFoundThough_19, kX4_isFoundThough_19, tX4_isFoundThough_48, kX4_isFoundThough_48, hX4_isFoundThough_19, w_g128, wc_X2_takeFrom, w_p69, ci_0, w_g68, wc_X2_passTick, ci_1, lg_0, lg_1, lg_2, lg_3, lg_4]
  try simp only [cm_1, cm_1000000, cm_1000001, cm_1000002, cm_1000003, cm_1000010, cm_1000100, lm_1000001, lm_1000002]
  have g2 := g1.sc (k := 5) (v := s) (by decide) (by decide)
  have loop : ∀ m t (M1 : Mm) (E : Ci), t + m = n → rC M1 215 E → wf E → E 3 0 = C 3 0 + t → fr 215 M M1 → (∀ M', fr 215 M M' → Q (some (.int (nI (tkN m E 4 0)))) M' L) → Runs nX4_isFoundThough (d + 4) Q 19 [some (.ref 214), some (.ref 15), some (.int (nI s)), some (.int (nI n)), some (.int (nI t))] [] M1 L := by
    intro m
    induction m with
    | zero =>
      intro t M1 E ht g hwE hE3 hf hq
      have h4 := hwE.2.2.2.1
      have e4 : M1 215 4 = nI (E 4 0) := g.1 4 (by decide)
      have fin := hq M1 hf
      rw [show tkN 0 E 4 0 = E 4 0 from rfl] at fin
      refine wpH_runs oX4_isFoundThough 60 19 oX4_isFoundThough_19 ?_
      rcases (show E 4 0 = 0 ∨ E 4 0 = 1 by omega) with q | q
      · rw [q] at e4 fin
        try simp (disch := omega) only [w_N, w_iconst, w_lcst, w_iload, w_lload, w_aload, m_i_s, m_l_s, m_a_s, w_istore, w_lstore, w_astore, w_iinc, w_iadd, w_isub, w_imul, w_iand, w_ior, w_ixor, w_ishl, w_ishr, w_iushr, w_idiv, w_irem, w_ineg, w_ladd, w_lsub, w_lmul, w_ldiv, w_lrem, w_lcmp, w_i2l, w_l2i, w_i2b, w_i2s, w_dupi, w_dupr, w_popi, w_popr, w_dup2, w_goto, w_cut, w_switch, sw_nil, sw_cons, w_iald, w_bald, w_zald, w_aald, w_iast, w_bast, w_zast, w_ireturn, w_zr0, w_zr1, w_lreturn, w_areturn, w_vreturn, w_cpy, w_mmax, w_mmin, w_sald, w_slen, sc_nil, sc_i, sc_r, sc_l, tl_s, tl_n, ls1, ls2, lk1, hd0, Int.reduceToNat, Nat.reduceAdd, Nat.reduceLeDiff, Nat.reduceMul, true_and, and_true, w_icmp_eq, w_icmp_ne, w_icmp_lt, w_icmp_ge, w_icmp_gt, w_icmp_le, w_if_eq, w_if_ne, w_if_lt, w_if_ge, w_if_gt, w_if_le, ki_0, ki_1, ki_2, li_2, ki_3, li_3, ki_4, li_4, ki_5, li_5, ki_6, li_6, ki_7, li_7, ki_8, li_8, ki_9, li_9, ki_10, li_10, ki_11, li_11, ki_12, li_12, ki_13, ki_14, li_14, ki_15, ki_16, li_16, ki_17, li_17, ki_18, li_18, ki_19, li_19, ki_20, li_20, ki_21, li_21, ki_22, ki_23, li_23, ki_24, li_24, ki_25, li_25, ki_26, li_26, ki_27, li_27, ki_28, li_28, ki_29, ki_30, li_30, ki_199, li_199, ki_200, ki_207, ki_214, ki_215, ki_216, li_216, ki_217, li_217, ki_218, li_218, ki_219, li_219, ki_220, li_220, ki_221, li_221, ki_222, ki_223, li_223, ki_224, li_224, ki_225, li_225, ki_226, li_226, ki_227, li_227, ki_228, li_228, ki_229, li_229, ki_230, ki_231, li_231, ki_232, ki_233, li_233, ki_234, li_234, ki_235, li_235, ki_236, li_236, ki_237, li_237, ki_238, li_238, ki_239, li_239, ki_240, li_240, ki_241, li_241, ki_242, li_242, ki_243, li_243, ki_244, li_244, ki_245, li_245, tX4_isFoundThough_0, kX4_isFoundThough_0, tX4_isFoundThough_19, kX4_isFoundThough_19, tX4_isFoundThough_48, kX4_isFoundThough_48, hX4_isFoundThough_19, w_g128, wc_X2_takeFrom, w_p69, ci_0, w_g68, wc_X2_passTick, ci_1, lg_0, lg_1, lg_2, lg_3, lg_4, nI_leI, e4]
        try simp only [cm_1, cm_1000000, cm_1000001, cm_1000002, cm_1000003, cm_1000010, cm_1000100, lm_1000001, lm_1000002]
        exact ⟨fun _ => fin, fun z => absurd (by omega) z⟩
      · rw [q] at e4 fin
        try simp (disch := omega) only [w_N, w_iconst, w_lcst, w_iload, w_lload, w_aload, m_i_s, m_l_s, m_a_s, w_istore, w_lstore, w_astore, w_iinc, w_iadd, w_isub, w_imul, w_iand, w_ior, w_ixor, w_ishl, w_ishr, w_iushr, w_idiv, w_irem, w_ineg, w_ladd, w_lsub, w_lmul, w_ldiv, w_lrem, w_lcmp, w_i2l, w_l2i, w_i2b, w_i2s, w_dupi, w_dupr, w_popi, w_popr, w_dup2, w_goto, w_cut, w_switch, sw_nil, sw_cons, w_iald, w_bald, w_zald, w_aald, w_iast, w_bast, w_zast, w_ireturn, w_zr0, w_zr1, w_lreturn, w_areturn, w_vreturn, w_cpy, w_mmax, w_mmin, w_sald, w_slen, sc_nil, sc_i, sc_r, sc_l, tl_s, tl_n, ls1, ls2, lk1, hd0, Int.reduceToNat, Nat.reduceAdd, Nat.reduceLeDiff, Nat.reduceMul, true_and, and_true, w_icmp_eq, w_icmp_ne, w_icmp_lt, w_icmp_ge, w_icmp_gt, w_icmp_le, w_if_eq, w_if_ne, w_if_lt, w_if_ge, w_if_gt, w_if_le, ki_0, ki_1, ki_2, li_2, ki_3, li_3, ki_4, li_4, ki_5, li_5, ki_6, li_6, ki_7, li_7, ki_8, li_8, ki_9, li_9, ki_10, li_10, ki_11, li_11, ki_12, li_12, ki_13, ki_14, li_14, ki_15, ki_16, li_16, ki_17, li_17, ki_18, li_18, ki_19, li_19, ki_20, li_20, ki_21, li_21, ki_22, ki_23, li_23, ki_24, li_24, ki_25, li_25, ki_26, li_26, ki_27, li_27, ki_28, li_28, ki_29, ki_30, li_30, ki_199, li_199, ki_200, ki_207, ki_214, ki_215, ki_216, li_216, ki_217, li_217, ki_218, li_218, ki_219, li_219, ki_220, li_220, ki_221, li_221, ki_222, ki_223, li_223, ki_224, li_224, ki_225, li_225, ki_226, li_226, ki_227, li_227, ki_228, li_228, ki_229, li_229, ki_230, ki_231, li_231, ki_232, ki_233, li_233, ki_234, li_234, ki_235, li_235, ki_236, li_236, ki_237, li_237, ki_238, li_238, ki_239, li_239, ki_240, li_240, ki_241, li_241, ki_242, li_242, ki_243, li_243, ki_244, li_244, ki_245, li_245, tX4_isFoundThough_0, kX4_isFoundThough_0, tX4_isFoundThough_19, kX4_isFoundThough_19, tX4_isFoundThough_48, kX4_isFoundThough_48, hX4_isFoundThough_19, w_g128, wc_X2_takeFrom, w_p69, ci_0, w_g68, wc_X2_passTick, ci_1, lg_0, lg_1, lg_2, lg_3, lg_4, nI_leI, e4]
        try simp only [cm_1, cm_1000000, cm_1000001, cm_1000002, cm_1000003, cm_1000010, cm_1000100, lm_1000001, lm_1000002]
        exact ⟨fun _ => fin, fun z => absurd (by omega) z⟩
    | succ m ih =>
      intro t M1 E ht g hwE hE3 hf hq
      have h4 := hwE.2.2.2.1
      have e4 : M1 215 4 = nI (E 4 0) := g.1 4 (by decide)
      refine wpH_runs oX4_isFoundThough 60 19 oX4_isFoundThough_19 ?_
      rcases (show E 4 0 = 0 ∨ E 4 0 = 1 by omega) with q | q
      · rw [q] at e4
        try simp (disch := omega) only [w_N, w_iconst, w_lcst, w_iload, w_lload, w_aload, m_i_s, m_l_s, m_a_s, w_istore, w_lstore, w_astore, w_iinc, w_iadd, w_isub, w_imul, w_iand, w_ior, w_ixor, w_ishl, w_ishr, w_iushr, w_idiv, w_irem, w_ineg, w_ladd, w_lsub, w_lmul, w_ldiv, w_lrem, w_lcmp, w_i2l, w_l2i, w_i2b, w_i2s, w_dupi, w_dupr, w_popi, w_popr, w_dup2, w_goto, w_cut, w_switch, sw_nil, sw_cons, w_iald, w_bald, w_zald, w_aald, w_iast, w_bast, w_zast, w_ireturn, w_zr0, w_zr1, w_lreturn, w_areturn, w_vreturn, w_cpy, w_mmax, w_mmin, w_sald, w_slen, sc_nil, sc_i, sc_r, sc_l, tl_s, tl_n, ls1, ls2, lk1, hd0, Int.reduceToNat, Nat.reduceAdd, Nat.reduceLeDiff, Nat.reduceMul, true_and, and_true, w_icmp_eq, w_icmp_ne, w_icmp_lt, w_icmp_ge, w_icmp_gt, w_icmp_le, w_if_eq, w_if_ne, w_if_lt, w_if_ge, w_if_gt, w_if_le, ki_0, ki_1, ki_2, li_2, ki_3, li_3, ki_4, li_4, ki_5, li_5, ki_6, li_6, ki_7, li_7, ki_8, li_8, ki_9, li_9, ki_10, li_10, ki_11, li_11, ki_12, li_12, ki_13, ki_14, li_14, ki_15, ki_16, li_16, ki_17, li_17, ki_18, li_18, ki_19, li_19, ki_20, li_20, ki_21, li_21, ki_22, ki_23, li_23, ki_24, li_24, ki_25, li_25, ki_26, li_26, ki_27, li_27, ki_28, li_28, ki_29, ki_30, li_30, ki_199, li_199, ki_200, ki_207, ki_214, ki_215, ki_216, li_216, ki_217, li_217, ki_218, li_218, ki_219, li_219, ki_220, li_220, ki_221, li_221, ki_222, ki_223, li_223, ki_224, li_224, ki_225, li_225, ki_226, li_226, ki_227, li_227, ki_228, li_228, ki_229, li_229, ki_230, ki_231, li_231, ki_232, ki_233, li_233, ki_234, li_234, ki_235, li_235, ki_236, li_236, ki_237, li_237, ki_238, li_238, ki_239, li_239, ki_240, li_240, ki_241, li_241, ki_242, li_242, ki_243, li_243, ki_244, li_244, ki_245, li_245, tX4_isFoundThough_0, kX4_isFoundThough_0, tX4_isFoundThough_19, kX4_isFoundThough_19, tX4_isFoundThough_48, kX4_isFoundThough_48, hX4_isFoundThough_19, w_g128, wc_X2_takeFrom, w_p69, ci_0, w_g68, wc_X2_passTick, ci_1, lg_0, lg_1, lg_2, lg_3, lg_4, nI_leI, e4]
        try simp only [cm_1, cm_1000000, cm_1000001, cm_1000002, cm_1000003, cm_1000010, cm_1000100, lm_1000001, lm_1000002]
        refine ⟨fun z => absurd z (by omega), fun _ => ⟨fun z => absurd zn0 z, fun _ => ?_⟩⟩
        refine callOk (show d + 3 < d + 4 by omega) (x_passTick isC_215 g hwE (by omega) fun M2 g2 f2 => ?_)
        try simp (disch := omega) only [w_N, w_iconst, w_lcst, w_iload, w_lload, w_aload, m_i_s, m_l_s, m_a_s, w_istore, w_lstore, w_astore, w_iinc, w_iadd, w_isub, w_imul, w_iand, w_ior, w_ixor, w_ishl, w_ishr, w_iushr, w_idiv, w_irem, w_ineg, w_ladd, w_lsub, w_lmul, w_ldiv, w_lrem, w_lcmp, w_i2l, w_l2i, w_i2b, w_i2s, w_dupi, w_dupr, w_popi, w_popr, w_dup2, w_goto, w_cut, w_switch, sw_nil, sw_cons, w_iald, w_bald, w_zald, w_aald, w_iast, w_bast, w_zast, w_ireturn, w_zr0, w_zr1, w_lreturn, w_areturn, w_vreturn, w_cpy, w_mmax, w_mmin, w_sald, w_slen, sc_nil, sc_i, sc_r, sc_l, tl_s, tl_n, ls1, ls2, lk1, hd0, Int.reduceToNat, Nat.reduceAdd, Nat.reduceLeDiff, Nat.reduceMul, true_and, and_true, w_icmp_eq, w_icmp_ne, w_icmp_lt, w_icmp_ge, w_icmp_gt, w_icmp_le, w_if_eq, w_if_ne, w_if_lt, w_if_ge, w_if_gt, w_if_le, ki_0, ki_1, ki_2, li_2, ki_3, li_3, ki_4, li_4, ki_5, li_5, ki_6, li_6, ki_7, li_7, ki_8, li_8, ki_9, li_9, ki_10, li_10, ki_11, li_11, ki_12, li_12, ki_13, ki_14, li_14, ki_15, ki_16, li_16, ki_17, li_17, ki_18, li_18, ki_19, li_19, ki_20, li_20, ki_21, li_21, ki_22, ki_23, li_23, ki_24, li_24, ki_25, li_25, ki_26, li_26, ki_27, li_27, ki_28, li_28, ki_29, ki_30, li_30, ki_199, li_199, ki_200, ki_207, ki_214, ki_215, ki_216, li_216, ki_217, li_217, ki_218, li_218, ki_219, li_219, ki_220, li_220, ki_221, li_221, ki_222, ki_223, li_223, ki_224, li_224, ki_225, li_225, ki_226, li_226, ki_227, li_227, ki_228, li_228, ki_229, li_229, ki_230, ki_231, li_231, ki_232, ki_233, li_233, ki_234, li_234, ki_235, li_235, ki_236, li_236, ki_237, li_237, ki_238, li_238, ki_239, li_239, ki_240, li_240, ki_241, li_241, ki_242, li_242, ki_243, li_243, ki_244, li_244, ki_245, li_245, tX4_isFoundThough_0, kX4_isFoundThough_0, tX4_isFoundThough_19, kX4_isFoundThough_19, tX4_isFoundThough_48, kX4_isFoundThough_48, hX4_isFoundThough_19, w_g128, wc_X2_takeFrom, w_p69, ci_0, w_g68, wc_X2_passTick, ci_1, lg_0, lg_1, lg_2, lg_3, lg_4, nI_add]
        try simp only [cm_1, cm_1000000, cm_1000001, cm_1000002, cm_1000003, cm_1000010, cm_1000100, lm_1000001, lm_1000002]
        exact ih (t + 1) M2 (tk E) (by omega) g2 (wf_tk hwE) (by rw [tk_3]; omega) (hf.tr f2) hq
      · rw [q] at e4
        have fin := hq M1 hf
        rw [tkN_4 _ q] at fin
        try simp (disch := omega) only [w_N, w_iconst, w_lcst, w_iload, w_lload, w_aload, m_i_s, m_l_s, m_a_s, w_istore, w_lstore, w_astore, w_iinc, w_iadd, w_isub, w_imul, w_iand, w_ior, w_ixor, w_ishl, w_ishr, w_iushr, w_idiv, w_irem, w_ineg, w_ladd, w_lsub, w_lmul, w_ldiv, w_lrem, w_lcmp, w_i2l, w_l2i, w_i2b, w_i2s, w_dupi, w_dupr, w_popi, w_popr, w_dup2, w_goto, w_cut, w_switch, sw_nil, sw_cons, w_iald, w_bald, w_zald, w_aald, w_iast, w_bast, w_zast, w_ireturn, w_zr0, w_zr1, w_lreturn, w_areturn, w_vreturn, w_cpy, w_mmax, w_mmin, w_sald, w_slen, sc_nil, sc_i, sc_r, sc_l, tl_s, tl_n, ls1, ls2, lk1, hd0, Int.reduceToNat, Nat.reduceAdd, Nat.reduceLeDiff, Nat.reduceMul, true_and, and_true, w_icmp_eq, w_icmp_ne, w_icmp_lt, w_icmp_ge, w_icmp_gt, w_icmp_le, w_if_eq, w_if_ne, w_if_lt, w_if_ge, w_if_gt, w_if_le, ki_0, ki_1, ki_2, li_2, ki_3, li_3, ki_4, li_4, ki_5, li_5, ki_6, li_6, ki_7, li_7, ki_8, li_8, ki_9, li_9, ki_10, li_10, ki_11, li_11, ki_12, li_12, ki_13, ki_14, li_14, ki_15, ki_16, li_16, ki_17, li_17, ki_18, li_18, ki_19, li_19, ki_20, li_20, ki_21, li_21, ki_22, ki_23, li_23, ki_24, li_24, ki_25, li_25, ki_26, li_26, ki_27, li_27, ki_28, li_28, ki_29, ki_30, li_30, ki_199, li_199, ki_200, ki_207, ki_214, ki_215, ki_216, li_216, ki_217, li_217, ki_218, li_218, ki_219, li_219, ki_220, li_220, ki_221, li_221, ki_222, ki_223, li_223, ki_224, li_224, ki_225, li_225, ki_226, li_226, ki_227, li_227, ki_228, li_228, ki_229, li_229, ki_230, ki_231, li_231, ki_232, ki_233, li_233, ki_234, li_234, ki_235, li_235, ki_236, li_236, ki_237, li_237, ki_238, li_238, ki_239, li_239, ki_240, li_240, ki_241, li_241, ki_242, li_242, ki_243, li_243, ki_244, li_244, ki_245, li_245, tX4_isFoundThough_0, kX4_isFoundThough_0, tX4_isFoundThough_19, kX4_isFoundThough_19, tX4_isFoundThough_48, kX4_isFoundThough_48, hX4_isFoundThough_19, w_g128, wc_X2_takeFrom, w_p69, ci_0, w_g68, wc_X2_passTick, ci_1, lg_0, lg_1, lg_2, lg_3, lg_4, nI_leI, e4]
        try simp only [cm_1, cm_1000000, cm_1000001, cm_1000002, cm_1000003, cm_1000010, cm_1000100, lm_1000001, lm_1000002]
        exact ⟨fun z => absurd z (by omega), fun _ => ⟨fun _ => fin, fun z => absurd z n10⟩⟩
  exact loop n 0 _ _ (by omega) g2 (wf_as hw hs) rfl (f1.um (by decide) (by decide)) hq
theorem x_reduce {N D : Nat} (hN : N < 2 ^ 40) (hD : D < 2 ^ 40) (hD1 : 1 ≤ D) (e8 : L 8 = lN N) (e9 : L 9 = lN D) (hq : ∀ L', L' 8 = lN (N / Nat.gcd N D) → L' 9 = lN (D / Nat.gcd N D) → Q none M L') : Good d nX4_reduce [.ref 214] M L Q := by
  refine eX4_reduce _ ?_
  try simp (disch := omega) only [w_N, w_iconst, w_lcst, w_iload, w_lload, w_aload, m_i_s, m_l_s, m_a_s, w_istore, w_lstore, w_astore, w_iinc, w_iadd, w_isub, w_imul, w_iand, w_ior, w_ixor, w_ishl, w_ishr, w_iushr, w_idiv, w_irem, w_ineg, w_ladd, w_lsub, w_lmul, w_ldiv, w_lrem, w_lcmp, w_i2l, w_l2i, w_i2b, w_i2s, w_dupi, w_dupr, w_popi, w_popr, w_dup2, w_goto, w_cut, w_switch, sw_nil, sw_cons, w_iald, w_bald, w_zald, w_aald, w_iast, w_bast, w_zast, w_ireturn, w_zr0, w_zr1, w_lreturn, w_areturn, w_vreturn, w_cpy, w_mmax, w_mmin, w_sald, w_slen, sc_nil, sc_i, sc_r, sc_l, tl_s, tl_n, ls1, ls2, lk1, hd0, Int.reduceToNat, Nat.reduceAdd, Nat.reduceLeDiff, Nat.reduceMul, true_and, and_true, w_icmp_eq, w_icmp_ne, w_icmp_lt, w_icmp_ge, w_icmp_gt, w_icmp_le, w_if_eq, w_if_ne, w_if_lt, w_if_ge, w_if_gt, w_if_le, ki_0, ki_1, ki_2, li_2, ki_3, li_3, ki_4, li_4, ki_5, li_5, ki_6, li_6, ki_7, li_7, ki_8, li_8, ki_9, li_9, ki_10, li_10, ki_11, li_11, ki_12, li_12, ki_13, ki_14, li_14, ki_15, ki_16, li_16, ki_17, li_17, ki_18, li_18, ki_19, li_19, ki_20, li_20, ki_21, li_21, ki_22, ki_23, li_23, ki_24, li_24, ki_25, li_25, ki_26, li_26, ki_27, li_27, ki_28, li_28, ki_29, ki_30, li_30, ki_199, li_199, ki_200, ki_207, ki_214, ki_215, ki_216, li_216, ki_217, li_217, ki_218, li_218, ki_219, li_219, ki_220, li_220, ki_221, li_221, ki_222, ki_223, li_223, ki_224, li_224, ki_225, li_225, ki_226, li_226, ki_227, li_227, ki_228, li_228, ki_229, li_229, ki_230, ki_231, li_231, ki_232, ki_233, li_233, ki_234, li_234, ki_235, li_235, ki_236, li_236, ki_237, li_237, ki_238, li_238, ki_239, li_239, ki_240, li_240, ki_241, li_241, ki_242, li_242, ki_243, li_243, ki_244, li_244, ki_245, li_245, tX4_reduce_0, kX4_reduce_0, tX4_reduce_13, kX4_reduce_13, tX4_reduce_42, kX4_reduce_42, tX4_reduce_68, kX4_reduce_68, hX4_reduce_13, w_g137, w_g136, ci_0, cl_0, w_p136, w_p137, ci_100, ci_1, lg_0, lg_1, lg_2, lg_3, lg_4, lg_5, lg_6, lg_7, e8, e9]
  try simp only [cm_1, cm_1000000, cm_1000001, cm_1000002, cm_1000003, cm_1000010, cm_1000100, lm_1000001, lm_1000002]
  have loop : ∀ m t a b (o6 o7 : Option Value), t + m = 100 → a < 2 ^ 40 → b < 2 ^ 40 → 1 ≤ euF m a b → euF m a b < 2 ^ 40 → euF m a b = Nat.gcd N D → Runs nX4_reduce d Q 13 [some (.ref 214), some (.long (lN a)), none, some (.long (lN b)), none, some (.int (nI t)), o6, o7] [] M L := by
    intro m
    have ex : ∀ a b t (o6 o7 : Option Value), t ≤ 100 → a < 2 ^ 40 → 1 ≤ a → a = Nat.gcd N D → (100 ≤ t ∨ b = 0) → b < 2 ^ 40 → Runs nX4_reduce d Q 13 [some (.ref 214), some (.long (lN a)), none, some (.long (lN b)), none, some (.int (nI t)), o6, o7] [] M L := by
      intro a b t o6 o7 ht ha ha1 hg hb hb2
      have d1 : lN N / lN a = lN (N / a) := pk_lDiv (by omega) (by omega) (by omega)
      have d2 : lN D / lN a = lN (D / a) := pk_lDiv (by omega) (by omega) (by omega)
      refine wpH_runs oX4_reduce 60 13 oX4_reduce_13 ?_
      try simp (disch := omega) only [w_N, w_iconst, w_lcst, w_iload, w_lload, w_aload, m_i_s, m_l_s, m_a_s, w_istore, w_lstore, w_astore, w_iinc, w_iadd, w_isub, w_imul, w_iand, w_ior, w_ixor, w_ishl, w_ishr, w_iushr, w_idiv, w_irem, w_ineg, w_ladd, w_lsub, w_lmul, w_ldiv, w_lrem, w_lcmp, w_i2l, w_l2i, w_i2b, w_i2s, w_dupi, w_dupr, w_popi, w_popr, w_dup2, w_goto, w_cut, w_switch, sw_nil, sw_cons, w_iald, w_bald, w_zald, w_aald, w_iast, w_bast, w_zast, w_ireturn, w_zr0, w_zr1, w_lreturn, w_areturn, w_vreturn, w_cpy, w_mmax, w_mmin, w_sald, w_slen, sc_nil, sc_i, sc_r, sc_l, tl_s, tl_n, ls1, ls2, lk1, hd0, Int.reduceToNat, Nat.reduceAdd, Nat.reduceLeDiff, Nat.reduceMul, true_and, and_true, w_icmp_eq, w_icmp_ne, w_icmp_lt, w_icmp_ge, w_icmp_gt, w_icmp_le, w_if_eq, w_if_ne, w_if_lt, w_if_ge, w_if_gt, w_if_le, ki_0, ki_1, ki_2, li_2, ki_3, li_3, ki_4, li_4, ki_5, li_5, ki_6, li_6, ki_7, li_7, ki_8, li_8, ki_9, li_9, ki_10, li_10, ki_11, li_11, ki_12, li_12, ki_13, ki_14, li_14, ki_15, ki_16, li_16, ki_17, li_17, ki_18, li_18, ki_19, li_19, ki_20, li_20, ki_21, li_21, ki_22, ki_23, li_23, ki_24, li_24, ki_25, li_25, ki_26, li_26, ki_27, li_27, ki_28, li_28, ki_29, ki_30, li_30, ki_199, li_199, ki_200, ki_207, ki_214, ki_215, ki_216, li_216, ki_217, li_217, ki_218, li_218, ki_219, li_219, ki_220, li_220, ki_221, li_221, ki_222, ki_223, li_223, ki_224, li_224, ki_225, li_225, ki_226, li_226, ki_227, li_227, ki_228, li_228, ki_229, li_229, ki_230, ki_231, li_231, ki_232, ki_233, li_233, ki_234, li_234, ki_235, li_235, ki_236, li_236, ki_237, li_237, ki_238, li_238, ki_239, li_239, ki_240, li_240, ki_241, li_241, ki_242, li_242, ki_243, li_243, ki_244, li_244, ki_245, li_245, tX4_reduce_0, kX4_reduce_0, tX4_reduce_13, kX4_reduce_13, tX4_reduce_42, kX4_reduce_42, tX4_reduce_68, kX4_reduce_68, hX4_reduce_13, w_g137, w_g136, ci_0, cl_0, w_p136, w_p137, ci_100, ci_1, lg_0, lg_1, lg_2, lg_3, lg_4, lg_5, lg_6, lg_7, nI_leI, ← zn0, lce, e8, e9, d1, d2, lz]
      try simp only [cm_1, cm_1000000, cm_1000001, cm_1000002, cm_1000003, cm_1000010, cm_1000100, lm_1000001, lm_1000002]
      have c1 : ¬ lg_cmp (lN a) (lN 0) ≤ nI 0 := by rw [zn0, lg_cmp_le, pk_lLE (by omega) (by decide)]; omega
      have fin : ¬a = 0 ∧ ¬a = 0 ∧ Q none M (ul (ul L 8 (lN (N / a))) 9 (ul L 8 (lN (N / a)) 9 / lN a)) := by
        refine ⟨by omega, by omega, hq _ ?_ ?_⟩
        · rw [← hg]; rfl
        · rw [← hg]
          show L 9 / lN a = lN (D / a)
          rw [e9, d2]
      exact ⟨fun _ => ⟨fun z => absurd z c1, fun _ => fin⟩, fun y => ⟨fun _ => ⟨fun z => absurd z c1, fun _ => fin⟩, fun z => absurd (hb.resolve_left y) z⟩⟩
    induction m with
    | zero =>
      intro t a b o6 o7 ht ha hb h1 h2 hg
      exact ex a b t o6 o7 (by omega) ha h1 hg (Or.inl (by omega)) hb
    | succ m ih =>
      intro t a b o6 o7 ht ha hb h1 h2 hg
      unfold euF at h1 h2 hg
      by_cases q : b = 0
      · rw [if_pos q] at h1 h2 hg
        exact ex a b t o6 o7 (by omega) ha h1 hg (Or.inr q) hb
      · rw [if_neg q] at h1 h2 hg
        have hr : a % b < b := Nat.mod_lt _ (by omega)
        refine wpH_runs oX4_reduce 60 13 oX4_reduce_13 ?_
        try simp (disch := omega) only [w_N, w_iconst, w_lcst, w_iload, w_lload, w_aload, m_i_s, m_l_s, m_a_s, w_istore, w_lstore, w_astore, w_iinc, w_iadd, w_isub, w_imul, w_iand, w_ior, w_ixor, w_ishl, w_ishr, w_iushr, w_idiv, w_irem, w_ineg, w_ladd, w_lsub, w_lmul, w_ldiv, w_lrem, w_lcmp, w_i2l, w_l2i, w_i2b, w_i2s, w_dupi, w_dupr, w_popi, w_popr, w_dup2, w_goto, w_cut, w_switch, sw_nil, sw_cons, w_iald, w_bald, w_zald, w_aald, w_iast, w_bast, w_zast, w_ireturn, w_zr0, w_zr1, w_lreturn, w_areturn, w_vreturn, w_cpy, w_mmax, w_mmin, w_sald, w_slen, sc_nil, sc_i, sc_r, sc_l, tl_s, tl_n, ls1, ls2, lk1, hd0, Int.reduceToNat, Nat.reduceAdd, Nat.reduceLeDiff, Nat.reduceMul, true_and, and_true, w_icmp_eq, w_icmp_ne, w_icmp_lt, w_icmp_ge, w_icmp_gt, w_icmp_le, w_if_eq, w_if_ne, w_if_lt, w_if_ge, w_if_gt, w_if_le, ki_0, ki_1, ki_2, li_2, ki_3, li_3, ki_4, li_4, ki_5, li_5, ki_6, li_6, ki_7, li_7, ki_8, li_8, ki_9, li_9, ki_10, li_10, ki_11, li_11, ki_12, li_12, ki_13, ki_14, li_14, ki_15, ki_16, li_16, ki_17, li_17, ki_18, li_18, ki_19, li_19, ki_20, li_20, ki_21, li_21, ki_22, ki_23, li_23, ki_24, li_24, ki_25, li_25, ki_26, li_26, ki_27, li_27, ki_28, li_28, ki_29, ki_30, li_30, ki_199, li_199, ki_200, ki_207, ki_214, ki_215, ki_216, li_216, ki_217, li_217, ki_218, li_218, ki_219, li_219, ki_220, li_220, ki_221, li_221, ki_222, ki_223, li_223, ki_224, li_224, ki_225, li_225, ki_226, li_226, ki_227, li_227, ki_228, li_228, ki_229, li_229, ki_230, ki_231, li_231, ki_232, ki_233, li_233, ki_234, li_234, ki_235, li_235, ki_236, li_236, ki_237, li_237, ki_238, li_238, ki_239, li_239, ki_240, li_240, ki_241, li_241, ki_242, li_242, ki_243, li_243, ki_244, li_244, ki_245, li_245, tX4_reduce_13, kX4_reduce_13, hX4_reduce_13, w_g137, w_g136, ci_0, cl_0, w_p136, w_p137, ci_100, ci_1, lg_0, lg_1, lg_2, lg_3, lg_4, lg_5, lg_6, lg_7, nI_leI, ← zn0, lce, lz, pk_lRem, nI_add]
        try simp only [cm_1, cm_1000000, cm_1000001, cm_1000002, cm_1000003, cm_1000010, cm_1000100, lm_1000001, lm_1000002]
        refine ⟨fun z => absurd z (by omega), fun _ => ⟨fun z => absurd z q, fun _ => ⟨q, ?_⟩⟩⟩
        exact ih (t + 1) b (a % b) _ _ (by omega) hb (by omega) h1 h2 hg
  have hg := euF_g 40 100 D N hN (by decide)
  have hp : 0 < Nat.gcd D N := Nat.gcd_pos_of_pos_left _ hD1
  have hle : Nat.gcd D N ≤ D := Nat.gcd_le_left _ hD1
  exact loop 100 0 D N _ _ (by omega) hD hN (by rw [hg]; exact hp) (by rw [hg]; omega) (by rw [hg, Nat.gcd_comm])
end
