/-! sets of players, as numbers -/
theorem n_andn {a b : Nat} (ha : a < 256) : nI a &&& (nI b ^^^ c_m1) = nI (a &&& (255 ^^^ b)) := by
  rw [c_m1_e]
  refine Int32.toBitVec_inj.mp ?_
  show BitVec.ofNat 32 a &&& (BitVec.ofNat 32 b ^^^ BitVec.allOnes 32) = BitVec.ofNat 32 (a &&& (255 ^^^ b))
  refine BitVec.eq_of_getLsbD_eq fun i hi => ?_
  rw [BitVec.getLsbD_and, BitVec.getLsbD_xor, BitVec.getLsbD_allOnes, BitVec.getLsbD_ofNat, BitVec.getLsbD_ofNat, BitVec.getLsbD_ofNat, Nat.testBit_and, Nat.testBit_xor]
  by_cases h8 : i < 8
  · have : (255 : Nat).testBit i = true := by
      have : ∀ i, i < 8 → (255 : Nat).testBit i = true := by decide
      exact this i h8
    rw [this]
    simp only [hi, decide_true, Bool.true_and]
    cases b.testBit i <;> rfl
  · have : a.testBit i = false := Nat.testBit_lt_two_pow (Nat.lt_of_lt_of_le ha (Nat.pow_le_pow_right (n := 2) (by decide) (show 8 ≤ i by omega)))
    rw [this]
    simp only [Bool.and_false, Bool.false_and]
def myS (P e : Nat) : Nat := (2 ^ P - 1) &&& (255 ^^^ e)
theorem tb_and0 {a b : Nat} : a &&& b = 0 ↔ ∀ i, a.testBit i = true → b.testBit i = false := by
  refine ⟨fun h i ha => ?_, fun h => Nat.eq_of_testBit_eq fun i => ?_⟩
  · have := congrArg (fun x => Nat.testBit x i) h
    simp only [Nat.testBit_and, ha, Bool.true_and, Nat.zero_testBit] at this
    exact this
  · rw [Nat.testBit_and, Nat.zero_testBit]
    cases ha : a.testBit i with
    | false => rfl
    | true => rw [h i ha]; rfl
theorem tb_lt {s P i : Nat} (h : s < 2 ^ P) (hi : s.testBit i = true) : i < P := by
  rcases Nat.lt_or_ge i P with q | q
  · exact q
  · have := Nat.testBit_lt_two_pow (Nat.lt_of_lt_of_le h (Nat.pow_le_pow_right (n := 2) (by decide) q))
    rw [this] at hi; cases hi
theorem tb_my {P e i : Nat} (hP : P < 9) (hi : i < P) : (myS P e).testBit i = !e.testBit i := by
  have h2 : (255 : Nat).testBit i = true := by
    have := @Nat.testBit_two_pow_sub_one 8 i
    rw [show (2 ^ 8 - 1 : Nat) = 255 from rfl] at this
    rw [this]; exact decide_eq_true (by omega)
  unfold myS
  rw [Nat.testBit_and, Nat.testBit_xor, Nat.testBit_two_pow_sub_one, decide_eq_true hi, h2]
  cases e.testBit i <;> rfl
theorem st_4 (P : Nat) (hP : P < 9) (e : Nat) (_ : e < 2 ^ P) (s : Nat) (hs : s < 2 ^ P) (h : s &&& e = 0) : myS P e &&& s = s := by
  rw [tb_and0] at h
  refine Nat.eq_of_testBit_eq fun i => ?_
  rw [Nat.testBit_and]
  cases hb : s.testBit i with
  | false => rw [Bool.and_false]
  | true => rw [tb_my hP (tb_lt hs hb), h i hb]; rfl
theorem st_3 (P : Nat) (s : Nat) (hs : s < 2 ^ P) : (2 ^ P - 1) &&& s = s := by rw [Nat.and_comm, Nat.and_two_pow_sub_one_eq_mod, Nat.mod_eq_of_lt hs]
theorem st_2 (P : Nat) (hP : P < 9) (e : Nat) (he : e < 2 ^ P) (s : Nat) (hs : s < 2 ^ P) (h : s &&& e = 0) : s ≤ myS P e := by
  have := st_4 P hP e he s hs h
  rw [← this]; exact Nat.and_le_left
theorem st_1 (P : Nat) (hP : P < 9) (e : Nat) (_ : e < 2 ^ P) (s : Nat) (hs : s < 2 ^ P) : s &&& (255 ^^^ myS P e) = 0 ↔ s &&& e = 0 := by
  rw [tb_and0, tb_and0]
  have key : ∀ i, s.testBit i = true → (255 ^^^ myS P e).testBit i = e.testBit i := fun i hb => by
    have hi := tb_lt hs hb
    have h2 : (255 : Nat).testBit i = true := by
      have := @Nat.testBit_two_pow_sub_one 8 i
      rw [show (2 ^ 8 - 1 : Nat) = 255 from rfl] at this
      rw [this]; exact decide_eq_true (by omega)
    rw [Nat.testBit_xor, tb_my hP hi, h2]
    cases e.testBit i <;> rfl
  exact ⟨fun h i hb => by rw [← key i hb]; exact h i hb, fun h i hb => by rw [key i hb]; exact h i hb⟩
theorem myS_lt {P e : Nat} : myS P e < 2 ^ P := Nat.lt_of_le_of_lt Nat.and_le_left (Nat.sub_lt Nat.one_le_two_pow Nat.one_pos)
def orK (f : Nat → Prop) [∀ j, Decidable (f j)] : Nat → Nat
  | 0 => 0
  | k + 1 => if f k then orK f k ||| k else orK f k
def anK (f : Nat → Prop) [∀ j, Decidable (f j)] (a : Nat) : Nat → Nat
  | 0 => a
  | k + 1 => if f k then anK f a k &&& k else anK f a k
theorem ctK_le' {f : Nat → Prop} [∀ j, Decidable (f j)] : ∀ k, ctK f k ≤ k
  | 0 => Nat.le_refl _
  | k + 1 => by have := ctK_le' (f := f) k; unfold ctK; split <;> omega
theorem ctK_y {f : Nat → Prop} [∀ j, Decidable (f j)] {k : Nat} (h : f k) : ctK f (k + 1) = ctK f k + 1 := by show (if f k then _ else _) = _; rw [if_pos h]
theorem ctK_n {f : Nat → Prop} [∀ j, Decidable (f j)] {k : Nat} (h : ¬ f k) : ctK f (k + 1) = ctK f k := by show (if f k then _ else _) = _; rw [if_neg h]
theorem orK_y {f : Nat → Prop} [∀ j, Decidable (f j)] {k : Nat} (h : f k) : orK f (k + 1) = orK f k ||| k := by show (if f k then _ else _) = _; rw [if_pos h]
theorem orK_n {f : Nat → Prop} [∀ j, Decidable (f j)] {k : Nat} (h : ¬ f k) : orK f (k + 1) = orK f k := by show (if f k then _ else _) = _; rw [if_neg h]
theorem anK_y {f : Nat → Prop} [∀ j, Decidable (f j)] {a k : Nat} (h : f k) : anK f a (k + 1) = anK f a k &&& k := by show (if f k then _ else _) = _; rw [if_pos h]
theorem anK_n {f : Nat → Prop} [∀ j, Decidable (f j)] {a k : Nat} (h : ¬ f k) : anK f a (k + 1) = anK f a k := by show (if f k then _ else _) = _; rw [if_neg h]
theorem stop3 {f : Nat → Prop} [∀ j, Decidable (f j)] {a : Nat} : ∀ m k, (∀ s, k ≤ s → s < k + m → ¬ f s) → ctK f (k + m) = ctK f k ∧ orK f (k + m) = orK f k ∧ anK f a (k + m) = anK f a k
  | 0, _, _ => ⟨rfl, rfl, rfl⟩
  | m + 1, k, h => by
    have ih := stop3 (a := a) m k fun s h1 h2 => h s h1 (by omega)
    have hn := h (k + m) (by omega) (by omega)
    rw [show k + (m + 1) = (k + m) + 1 from rfl, ctK_n hn, orK_n hn, anK_n hn]
    exact ih
theorem ct0_or {f : Nat → Prop} [∀ j, Decidable (f j)] : ∀ k, ctK f k = 0 → orK f k = 0
  | 0, _ => rfl
  | k + 1, h => by
    by_cases q : f k
    · rw [ctK_y q] at h; exact absurd h (by omega)
    · rw [ctK_n q] at h; rw [orK_n q]; exact ct0_or k h
theorem anK_ab {f : Nat → Prop} [∀ j, Decidable (f j)] {a b : Nat} (ha : ∀ s, f s → a &&& s = s) (hb : ∀ s, f s → b &&& s = s) : ∀ k, (ctK f k = 0 ∧ anK f a k = a ∧ anK f b k = b) ∨ (0 < ctK f k ∧ anK f a k = anK f b k)
  | 0 => Or.inl ⟨rfl, rfl, rfl⟩
  | k + 1 => by
    by_cases q : f k
    · rw [ctK_y q, anK_y q, anK_y q]
      right
      refine ⟨by omega, ?_⟩
      rcases anK_ab ha hb k with ⟨_, h2, h3⟩ | ⟨_, h2⟩
      · rw [h2, h3, ha k q, hb k q]
      · rw [h2]
    · rw [ctK_n q, anK_n q, anK_n q]
      exact anK_ab ha hb k
def sst (C : Ci) (s k : Nat) : Nat := smK (fun j => if s / 2 ^ j % 2 = 1 then C 11 j else 0) k
abbrev stP (C : Ci) (v s : Nat) : Prop := s < 2 ^ C 0 0 ∧ s &&& bts C 2 = 0 ∧ sst C s (C 0 0) = v
theorem sst_le {C : Ci} {s : Nat} (h : ∀ j, j < C 0 0 → C 11 j ≤ 99) : ∀ k, k ≤ C 0 0 → sst C s k ≤ 99 * k
  | 0, _ => Nat.le_refl _
  | k + 1, hk => by
    have ih := sst_le (s := s) h k (by omega)
    have := h k (by omega)
    unfold sst smK
    unfold sst at ih
    split <;> omega
section
variable {d : Nat} {M : Mm} {L : Ml} {Q : Qt} {C : Ci}
theorem x_sawTogether (h : rC M 15 C) (hw : wf C) {s : Nat} (hs : s < 256) (hq : Q (some (.int (nI (sst C s (C 0 0))))) M L) : Good d nX4_sawTogether [.ref 15, .int (nI s)] M L Q := by
  have hP8 := hw.1.2
  refine eX4_sawTogether _ _ ?_
  try simp (disch := omega) only [w_N, w_iconst, w_lcst, w_iload, w_lload, w_aload, m_i_s, m_l_s, m_a_s, w_istore, w_lstore, w_astore, w_iinc, w_iadd, w_isub, w_imul, w_iand, w_ior, w_ixor, w_ishl, w_ishr, w_iushr, w_idiv, w_irem, w_ineg, w_ladd, w_lsub, w_lmul, w_ldiv, w_lrem, w_lcmp, w_i2l, w_l2i, w_i2b, w_i2s, w_dupi, w_dupr, w_popi, w_popr, w_dup2, w_goto, w_cut, w_switch, sw_nil, sw_cons, w_iald, w_bald, w_zald, w_aald, w_iast, w_bast, w_zast, w_ireturn, w_zr0, w_zr1, w_lreturn, w_areturn, w_vreturn, w_cpy, w_mmax, w_mmin, w_sald, w_slen, sc_nil, sc_i, sc_r, sc_l, tl_s, tl_n, ls1, ls2, lk1, hd0, Int.reduceToNat, Nat.reduceAdd, Nat.reduceLeDiff, Nat.reduceMul, true_and, and_true, w_icmp_eq, w_icmp_ne, w_icmp_lt, w_icmp_ge, w_icmp_gt, w_icmp_le, w_if_eq, w_if_ne, w_if_lt, w_if_ge, w_if_gt, w_if_le, ki_0, ki_1, ki_2, li_2, ki_3, li_3, ki_4, li_4, ki_5, li_5, ki_6, li_6, ki_7, li_7, ki_8, li_8, ki_9, li_9, ki_10, li_10, ki_11, li_11, ki_12, li_12, ki_13, ki_14, li_14, ki_15, ki_16, li_16, ki_17, li_17, ki_18, li_18, ki_19, li_19, ki_20, li_20, ki_21, li_21, ki_22, ki_23, li_23, ki_24, li_24, ki_25, li_25, ki_26, li_26, ki_27, li_27, ki_28, li_28, ki_29, ki_30, li_30, ki_199, li_199, ki_200, ki_207, ki_214, ki_215, ki_216, li_216, ki_217, li_217, ki_218, li_218, ki_219, li_219, ki_220, li_220, ki_221, li_221, ki_222, ki_223, li_223, ki_224, li_224, ki_225, li_225, ki_226, li_226, ki_227, li_227, ki_228, li_228, ki_229, li_229, ki_230, ki_231, li_231, ki_232, ki_233, li_233, ki_234, li_234, ki_235, li_235, ki_236, li_236, ki_237, li_237, ki_238, li_238, ki_239, li_239, ki_240, li_240, ki_241, li_241, ki_242, li_242, ki_243, li_243, ki_244, li_244, ki_245, li_245, tX4_sawTogether_0, kX4_sawTogether_0, tX4_sawTogether_4, kX4_sawTogether_4, tX4_sawTogether_30, kX4_sawTogether_30, tX4_sawTogether_36, kX4_sawTogether_36, hX4_sawTogether_4, ci_0, ci_1, w_g64, w_g75, lg_0, lg_1, lg_2, lg_3]
  try simp only [cm_1, cm_1000000, cm_1000001, cm_1000002, cm_1000003, cm_1000010, cm_1000100, lm_1000001, lm_1000002]
  have e0 : M 15 0 = nI (C 0 0) := h.1 0 (by decide)
  have loop : ∀ m k, k + m = C 0 0 → Runs nX4_sawTogether d Q 4 [some (.ref 15), some (.int (nI s)), some (.int (nI (sst C s k))), some (.int (nI k))] [] M L := by
    intro m
    induction m with
    | zero =>
      intro k hk
      have hkP : k = C 0 0 := by omega
      subst hkP
      refine wpH_runs oX4_sawTogether 60 4 oX4_sawTogether_4 ?_
      try simp (disch := omega) only [w_N, w_iconst, w_lcst, w_iload, w_lload, w_aload, m_i_s, m_l_s, m_a_s, w_istore, w_lstore, w_astore, w_iinc, w_iadd, w_isub, w_imul, w_iand, w_ior, w_ixor, w_ishl, w_ishr, w_iushr, w_idiv, w_irem, w_ineg, w_ladd, w_lsub, w_lmul, w_ldiv, w_lrem, w_lcmp, w_i2l, w_l2i, w_i2b, w_i2s, w_dupi, w_dupr, w_popi, w_popr, w_dup2, w_goto, w_cut, w_switch, sw_nil, sw_cons, w_iald, w_bald, w_zald, w_aald, w_iast, w_bast, w_zast, w_ireturn, w_zr0, w_zr1, w_lreturn, w_areturn, w_vreturn, w_cpy, w_mmax, w_mmin, w_sald, w_slen, sc_nil, sc_i, sc_r, sc_l, tl_s, tl_n, ls1, ls2, lk1, hd0, Int.reduceToNat, Nat.reduceAdd, Nat.reduceLeDiff, Nat.reduceMul, true_and, and_true, w_icmp_eq, w_icmp_ne, w_icmp_lt, w_icmp_ge, w_icmp_gt, w_icmp_le, w_if_eq, w_if_ne, w_if_lt, w_if_ge, w_if_gt, w_if_le, ki_0, ki_1, ki_2, li_2, ki_3, li_3, ki_4, li_4, ki_5, li_5, ki_6, li_6, ki_7, li_7, ki_8, li_8, ki_9, li_9, ki_10, li_10, ki_11, li_11, ki_12, li_12, ki_13, ki_14, li_14, ki_15, ki_16, li_16, ki_17, li_17, ki_18, li_18, ki_19, li_19, ki_20, li_20, ki_21, li_21, ki_22, ki_23, li_23, ki_24, li_24, ki_25, li_25, ki_26, li_26, ki_27, li_27, ki_28, li_28, ki_29, ki_30, li_30, ki_199, li_199, ki_200, ki_207, ki_214, ki_215, ki_216, li_216, ki_217, li_217, ki_218, li_218, ki_219, li_219, ki_220, li_220, ki_221, li_221, ki_222, ki_223, li_223, ki_224, li_224, ki_225, li_225, ki_226, li_226, ki_227, li_227, ki_228, li_228, ki_229, li_229, ki_230, ki_231, li_231, ki_232, ki_233, li_233, ki_234, li_234, ki_235, li_235, ki_236, li_236, ki_237, li_237, ki_238, li_238, ki_239, li_239, ki_240, li_240, ki_241, li_241, ki_242, li_242, ki_243, li_243, ki_244, li_244, ki_245, li_245, tX4_sawTogether_0, kX4_sawTogether_0, tX4_sawTogether_4, kX4_sawTogether_4, tX4_sawTogether_30, kX4_sawTogether_30, tX4_sawTogether_36, kX4_sawTogether_36, hX4_sawTogether_4, ci_0, ci_1, w_g64, w_g75, lg_0, lg_1, lg_2, lg_3, e0, nI_leI]
      try simp only [cm_1, cm_1000000, cm_1000001, cm_1000002, cm_1000003, cm_1000010, cm_1000100, lm_1000001, lm_1000002]
      exact ⟨fun _ => hq, fun z => absurd (Nat.le_refl _) z⟩
    | succ m ih =>
      intro k hk
      have e11 : M 21 k = nI (C 11 k) := h.w (by omega)
      refine wpH_runs oX4_sawTogether 60 4 oX4_sawTogether_4 ?_
      have hb := shr1 s hs k (by omega)
      have hb2 : s / 2 ^ k % 2 < 2 := Nat.mod_lt _ (by decide)
      try simp (disch := omega) only [w_N, w_iconst, w_lcst, w_iload, w_lload, w_aload, m_i_s, m_l_s, m_a_s, w_istore, w_lstore, w_astore, w_iinc, w_iadd, w_isub, w_imul, w_iand, w_ior, w_ixor, w_ishl, w_ishr, w_iushr, w_idiv, w_irem, w_ineg, w_ladd, w_lsub, w_lmul, w_ldiv, w_lrem, w_lcmp, w_i2l, w_l2i, w_i2b, w_i2s, w_dupi, w_dupr, w_popi, w_popr, w_dup2, w_goto, w_cut, w_switch, sw_nil, sw_cons, w_iald, w_bald, w_zald, w_aald, w_iast, w_bast, w_zast, w_ireturn, w_zr0, w_zr1, w_lreturn, w_areturn, w_vreturn, w_cpy, w_mmax, w_mmin, w_sald, w_slen, sc_nil, sc_i, sc_r, sc_l, tl_s, tl_n, ls1, ls2, lk1, hd0, Int.reduceToNat, Nat.reduceAdd, Nat.reduceLeDiff, Nat.reduceMul, true_and, and_true, w_icmp_eq, w_icmp_ne, w_icmp_lt, w_icmp_ge, w_icmp_gt, w_icmp_le, w_if_eq, w_if_ne, w_if_lt, w_if_ge, w_if_gt, w_if_le, ki_0, ki_1, ki_2, li_2, ki_3, li_3, ki_4, li_4, ki_5, li_5, ki_6, li_6, ki_7, li_7, ki_8, li_8, ki_9, li_9, ki_10, li_10, ki_11, li_11, ki_12, li_12, ki_13, ki_14, li_14, ki_15, ki_16, li_16, ki_17, li_17, ki_18, li_18, ki_19, li_19, ki_20, li_20, ki_21, li_21, ki_22, ki_23, li_23, ki_24, li_24, ki_25, li_25, ki_26, li_26, ki_27, li_27, ki_28, li_28, ki_29, ki_30, li_30, ki_199, li_199, ki_200, ki_207, ki_214, ki_215, ki_216, li_216, ki_217, li_217, ki_218, li_218, ki_219, li_219, ki_220, li_220, ki_221, li_221, ki_222, ki_223, li_223, ki_224, li_224, ki_225, li_225, ki_226, li_226, ki_227, li_227, ki_228, li_228, ki_229, li_229, ki_230, ki_231, li_231, ki_232, ki_233, li_233, ki_234, li_234, ki_235, li_235, ki_236, li_236, ki_237, li_237, ki_238, li_238, ki_239, li_239, ki_240, li_240, ki_241, li_241, ki_242, li_242, ki_243, li_243, ki_244, li_244, ki_245, li_245, tX4_sawTogether_0, kX4_sawTogether_0, tX4_sawTogether_4, kX4_sawTogether_4, tX4_sawTogether_30, kX4_sawTogether_30, tX4_sawTogether_36, kX4_sawTogether_36, hX4_sawTogether_4, ci_0, ci_1, w_g64, w_g75, lg_0, lg_1, lg_2, lg_3, e0, nI_leI, nI_add, hb, nI_eq]
      try simp only [cm_1, cm_1000000, cm_1000001, cm_1000002, cm_1000003, cm_1000010, cm_1000100, lm_1000001, lm_1000002]
      refine ⟨fun z => absurd z (by omega), fun _ => ⟨fun z => ?_, fun z => exj (by omega) ?_⟩⟩
      · have := ih (k + 1) (by omega)
        unfold sst smK at this
        rw [if_neg z, Nat.add_zero] at this
        exact this
      · have := ih (k + 1) (by omega)
        unfold sst smK at this
        rw [if_pos z] at this
        rw [e11, nI_add]
        exact this
  exact loop (C 0 0) 0 (by omega)
theorem x_setsThatSaw (h : rC M 15 C) (hw : wf C) {v a : Nat} (hv : v ≤ 99) (ha : a ≤ 2) (hq : Q (some (.int (nI (if a = 0 then ctK (stP C v) (2 ^ C 0 0) else if ctK (stP C v) (2 ^ C 0 0) = 0 then 0 else if a = 1 then anK (stP C v) (2 ^ C 0 0 - 1) (2 ^ C 0 0) else orK (stP C v) (2 ^ C 0 0))))) M L) : Good (d + 1) nX4_setsThatSaw [.ref 214, .ref 15, .int (nI v), .int (nI a)] M L Q := by
  have hP := hw.1
  have e0 : M 15 0 = nI (C 0 0) := h.1 0 (by decide)
  have hN : 2 ^ C 0 0 ≤ 256 := Nat.pow_le_pow_right (n := 2) (j := 8) (by decide) hP.2
  have hN1 : 1 ≤ 2 ^ C 0 0 := Nat.one_le_two_pow
  have s1 := sh1 (C 0 0) (by omega)
  have h9 : ∀ j, j < C 0 0 → C 9 j ≤ 2 := fun j hj => (hw.2.2.2.2.2 j hj).2.2.2.1
  have h11 : ∀ j, j < C 0 0 → C 11 j ≤ 99 := fun j hj => (hw.2.2.2.2.2 j hj).2.2.2.2.2.2.2
  refine eX4_setsThatSaw _ _ _ _ ?_
  try simp (disch := omega) only [w_N, w_iconst, w_lcst, w_iload, w_lload, w_aload, m_i_s, m_l_s, m_a_s, w_istore, w_lstore, w_astore, w_iinc, w_iadd, w_isub, w_imul, w_iand, w_ior, w_ixor, w_ishl, w_ishr, w_iushr, w_idiv, w_irem, w_ineg, w_ladd, w_lsub, w_lmul, w_ldiv, w_lrem, w_lcmp, w_i2l, w_l2i, w_i2b, w_i2s, w_dupi, w_dupr, w_popi, w_popr, w_dup2, w_goto, w_cut, w_switch, sw_nil, sw_cons, w_iald, w_bald, w_zald, w_aald, w_iast, w_bast, w_zast, w_ireturn, w_zr0, w_zr1, w_lreturn, w_areturn, w_vreturn, w_cpy, w_mmax, w_mmin, w_sald, w_slen, sc_nil, sc_i, sc_r, sc_l, tl_s, tl_n, ls1, ls2, lk1, hd0, Int.reduceToNat, Nat.reduceAdd, Nat.reduceLeDiff, Nat.reduceMul, true_and, and_true, w_icmp_eq, w_icmp_ne, w_icmp_lt, w_icmp_ge, w_icmp_gt, w_icmp_le, w_if_eq, w_if_ne, w_if_lt, w_if_ge, w_if_gt, w_if_le, ki_0, ki_1, ki_2, li_2, ki_3, li_3, ki_4, li_4, ki_5, li_5, ki_6, li_6, ki_7, li_7, ki_8, li_8, ki_9, li_9, ki_10, li_10, ki_11, li_11, ki_12, li_12, ki_13, ki_14, li_14, ki_15, ki_16, li_16, ki_17, li_17, ki_18, li_18, ki_19, li_19, ki_20, li_20, ki_21, li_21, ki_22, ki_23, li_23, ki_24, li_24, ki_25, li_25, ki_26, li_26, ki_27, li_27, ki_28, li_28, ki_29, ki_30, li_30, ki_199, li_199, ki_200, ki_207, ki_214, ki_215, ki_216, li_216, ki_217, li_217, ki_218, li_218, ki_219, li_219, ki_220, li_220, ki_221, li_221, ki_222, ki_223, li_223, ki_224, li_224, ki_225, li_225, ki_226, li_226, ki_227, li_227, ki_228, li_228, ki_229, li_229, ki_230, ki_231, li_231, ki_232, ki_233, li_233, ki_234, li_234, ki_235, li_235, ki_236, li_236, ki_237, li_237, ki_238, li_238, ki_239, li_239, ki_240, li_240, ki_241, li_241, ki_242, li_242, ki_243, li_243, ki_244, li_244, ki_245, li_245, tX4_setsThatSaw_0, kX4_setsThatSaw_0, tX4_setsThatSaw_26, kX4_setsThatSaw_26, tX4_setsThatSaw_72, kX4_setsThatSaw_72, tX4_setsThatSaw_78, kX4_setsThatSaw_78, tX4_setsThatSaw_85, kX4_setsThatSaw_85, tX4_setsThatSaw_92, kX4_setsThatSaw_92, tX4_setsThatSaw_102, kX4_setsThatSaw_102, tX4_setsThatSaw_104, kX4_setsThatSaw_104, hX4_setsThatSaw_26, ci_2, wc_X2_bitsOf, ci_0, ci_1, w_g64, wc_X4_sawTogether, lg_0, lg_1, lg_2, lg_3, lg_4, lg_5, lg_6, lg_7, lg_8]
  try simp only [cm_1, cm_1000000, cm_1000001, cm_1000002, cm_1000003, cm_1000010, cm_1000100, lm_1000001, lm_1000002]
  refine callOk (Nat.lt_succ_self d) (x_bitsOf isC_15 h hP.2 h9 (by decide) ?_)
  try simp (disch := omega) only [w_N, w_iconst, w_lcst, w_iload, w_lload, w_aload, m_i_s, m_l_s, m_a_s, w_istore, w_lstore, w_astore, w_iinc, w_iadd, w_isub, w_imul, w_iand, w_ior, w_ixor, w_ishl, w_ishr, w_iushr, w_idiv, w_irem, w_ineg, w_ladd, w_lsub, w_lmul, w_ldiv, w_lrem, w_lcmp, w_i2l, w_l2i, w_i2b, w_i2s, w_dupi, w_dupr, w_popi, w_popr, w_dup2, w_goto, w_cut, w_switch, sw_nil, sw_cons, w_iald, w_bald, w_zald, w_aald, w_iast, w_bast, w_zast, w_ireturn, w_zr0, w_zr1, w_lreturn, w_areturn, w_vreturn, w_cpy, w_mmax, w_mmin, w_sald, w_slen, sc_nil, sc_i, sc_r, sc_l, tl_s, tl_n, ls1, ls2, lk1, hd0, Int.reduceToNat, Nat.reduceAdd, Nat.reduceLeDiff, Nat.reduceMul, true_and, and_true, w_icmp_eq, w_icmp_ne, w_icmp_lt, w_icmp_ge, w_icmp_gt, w_icmp_le, w_if_eq, w_if_ne, w_if_lt, w_if_ge, w_if_gt, w_if_le, ki_0, ki_1, ki_2, li_2, ki_3, li_3, ki_4, li_4, ki_5, li_5, ki_6, li_6, ki_7, li_7, ki_8, li_8, ki_9, li_9, ki_10, li_10, ki_11, li_11, ki_12, li_12, ki_13, ki_14, li_14, ki_15, ki_16, li_16, ki_17, li_17, ki_18, li_18, ki_19, li_19, ki_20, li_20, ki_21, li_21, ki_22, ki_23, li_23, ki_24, li_24, ki_25, li_25, ki_26, li_26, ki_27, li_27, ki_28, li_28, ki_29, ki_30, li_30, ki_199, li_199, ki_200, ki_207, ki_214, ki_215, ki_216, li_216, ki_217, li_217, ki_218, li_218, ki_219, li_219, ki_220, li_220, ki_221, li_221, ki_222, ki_223, li_223, ki_224, li_224, ki_225, li_225, ki_226, li_226, ki_227, li_227, ki_228, li_228, ki_229, li_229, ki_230, ki_231, li_231, ki_232, ki_233, li_233, ki_234, li_234, ki_235, li_235, ki_236, li_236, ki_237, li_237, ki_238, li_238, ki_239, li_239, ki_240, li_240, ki_241, li_241, ki_242, li_242, ki_243, li_243, ki_244, li_244, ki_245, li_245, tX4_setsThatSaw_0, kX4_setsThatSaw_0, tX4_setsThatSaw_26, kX4_setsThatSaw_26, tX4_setsThatSaw_72, kX4_setsThatSaw_72, tX4_setsThatSaw_78, kX4_setsThatSaw_78, tX4_setsThatSaw_85, kX4_setsThatSaw_85, tX4_setsThatSaw_92, kX4_setsThatSaw_92, tX4_setsThatSaw_102, kX4_setsThatSaw_102, tX4_setsThatSaw_104, kX4_setsThatSaw_104, hX4_setsThatSaw_26, ci_2, wc_X2_bitsOf, ci_0, ci_1, w_g64, wc_X4_sawTogether, lg_0, lg_1, lg_2, lg_3, lg_4, lg_5, lg_6, lg_7, lg_8, e0, s1, pk_sub]
  try simp only [cm_1, cm_1000000, cm_1000001, cm_1000002, cm_1000003, cm_1000010, cm_1000100, lm_1000001, lm_1000002]
  have loop : ∀ m k, k + m = 2 ^ C 0 0 → Runs nX4_setsThatSaw (d + 1) Q 26 [some (.ref 214), some (.ref 15), some (.int (nI v)), some (.int (nI a)), some (.int (nI (bts C 2))), some (.int (nI (ctK (stP C v) k))), some (.int (nI (anK (stP C v) (2 ^ C 0 0 - 1) k))), some (.int (nI (orK (stP C v) k))), some (.int (nI k))] [] M L := by
    intro m
    induction m with
    | zero =>
      intro k hk
      have hkP : k = 2 ^ C 0 0 := by omega
      subst hkP
      have hct := ctK_le' (f := stP C v) (2 ^ C 0 0)
      refine wpH_runs oX4_setsThatSaw 60 26 oX4_setsThatSaw_26 ?_
      try simp (disch := omega) only [w_N, w_iconst, w_lcst, w_iload, w_lload, w_aload, m_i_s, m_l_s, m_a_s, w_istore, w_lstore, w_astore, w_iinc, w_iadd, w_isub, w_imul, w_iand, w_ior, w_ixor, w_ishl, w_ishr, w_iushr, w_idiv, w_irem, w_ineg, w_ladd, w_lsub, w_lmul, w_ldiv, w_lrem, w_lcmp, w_i2l, w_l2i, w_i2b, w_i2s, w_dupi, w_dupr, w_popi, w_popr, w_dup2, w_goto, w_cut, w_switch, sw_nil, sw_cons, w_iald, w_bald, w_zald, w_aald, w_iast, w_bast, w_zast, w_ireturn, w_zr0, w_zr1, w_lreturn, w_areturn, w_vreturn, w_cpy, w_mmax, w_mmin, w_sald, w_slen, sc_nil, sc_i, sc_r, sc_l, tl_s, tl_n, ls1, ls2, lk1, hd0, Int.reduceToNat, Nat.reduceAdd, Nat.reduceLeDiff, Nat.reduceMul, true_and, and_true, w_icmp_eq, w_icmp_ne, w_icmp_lt, w_icmp_ge, w_icmp_gt, w_icmp_le, w_if_eq, w_if_ne, w_if_lt, w_if_ge, w_if_gt, w_if_le, ki_0, ki_1, ki_2, li_2, ki_3, li_3, ki_4, li_4, ki_5, li_5, ki_6, li_6, ki_7, li_7, ki_8, li_8, ki_9, li_9, ki_10, li_10, ki_11, li_11, ki_12, li_12, ki_13, ki_14, li_14, ki_15, ki_16, li_16, ki_17, li_17, ki_18, li_18, ki_19, li_19, ki_20, li_20, ki_21, li_21, ki_22, ki_23, li_23, ki_24, li_24, ki_25, li_25, ki_26, li_26, ki_27, li_27, ki_28, li_28, ki_29, ki_30, li_30, ki_199, li_199, ki_200, ki_207, ki_214, ki_215, ki_216, li_216, ki_217, li_217, ki_218, li_218, ki_219, li_219, ki_220, li_220, ki_221, li_221, ki_222, ki_223, li_223, ki_224, li_224, ki_225, li_225, ki_226, li_226, ki_227, li_227, ki_228, li_228, ki_229, li_229, ki_230, ki_231, li_231, ki_232, ki_233, li_233, ki_234, li_234, ki_235, li_235, ki_236, li_236, ki_237, li_237, ki_238, li_238, ki_239, li_239, ki_240, li_240, ki_241, li_241, ki_242, li_242, ki_243, li_243, ki_244, li_244, ki_245, li_245, tX4_setsThatSaw_0, kX4_setsThatSaw_0, tX4_setsThatSaw_26, kX4_setsThatSaw_26, tX4_setsThatSaw_72, kX4_setsThatSaw_72, tX4_setsThatSaw_78, kX4_setsThatSaw_78, tX4_setsThatSaw_85, kX4_setsThatSaw_85, tX4_setsThatSaw_92, kX4_setsThatSaw_92, tX4_setsThatSaw_102, kX4_setsThatSaw_102, tX4_setsThatSaw_104, kX4_setsThatSaw_104, hX4_setsThatSaw_26, ci_2, wc_X2_bitsOf, ci_0, ci_1, w_g64, wc_X4_sawTogether, lg_0, lg_1, lg_2, lg_3, lg_4, lg_5, lg_6, lg_7, lg_8, e0, s1, nI_leI, ← zn0, nI_eq]
      try simp only [cm_1, cm_1000000, cm_1000001, cm_1000002, cm_1000003, cm_1000010, cm_1000100, lm_1000001, lm_1000002]
      refine ⟨fun _ => ?_, fun z => absurd (Nat.le_refl _) z⟩
      refine ⟨fun y1 => ⟨fun y2 => ⟨fun y3 => ?_, fun y3 => ?_⟩, fun y2 => ?_⟩, fun y1 => ?_⟩
      · rw [if_neg y1, if_neg y2, if_neg y3] at hq; exact hq
      · rw [if_neg y1, if_neg y2, if_pos y3] at hq; exact hq
      · rw [if_neg y1, if_pos y2] at hq; exact hq
      · rw [if_pos y1] at hq; exact hq
    | succ m ih =>
      intro k hk
      have hin := ih (k + 1) (by omega)
      have hsl := sst_le (s := k) h11 (C 0 0) (Nat.le_refl _)
      have hla : k &&& bts C 2 < 256 := Nat.lt_of_le_of_lt Nat.and_le_left (by omega)
      refine wpH_runs oX4_setsThatSaw 60 26 oX4_setsThatSaw_26 ?_
      try simp (disch := omega) only [w_N, w_iconst, w_lcst, w_iload, w_lload, w_aload, m_i_s, m_l_s, m_a_s, w_istore, w_lstore, w_astore, w_iinc, w_iadd, w_isub, w_imul, w_iand, w_ior, w_ixor, w_ishl, w_ishr, w_iushr, w_idiv, w_irem, w_ineg, w_ladd, w_lsub, w_lmul, w_ldiv, w_lrem, w_lcmp, w_i2l, w_l2i, w_i2b, w_i2s, w_dupi, w_dupr, w_popi, w_popr, w_dup2, w_goto, w_cut, w_switch, sw_nil, sw_cons, w_iald, w_bald, w_zald, w_aald, w_iast, w_bast, w_zast, w_ireturn, w_zr0, w_zr1, w_lreturn, w_areturn, w_vreturn, w_cpy, w_mmax, w_mmin, w_sald, w_slen, sc_nil, sc_i, sc_r, sc_l, tl_s, tl_n, ls1, ls2, lk1, hd0, Int.reduceToNat, Nat.reduceAdd, Nat.reduceLeDiff, Nat.reduceMul, true_and, and_true, w_icmp_eq, w_icmp_ne, w_icmp_lt, w_icmp_ge, w_icmp_gt, w_icmp_le, w_if_eq, w_if_ne, w_if_lt, w_if_ge, w_if_gt, w_if_le, ki_0, ki_1, ki_2, li_2, ki_3, li_3, ki_4, li_4, ki_5, li_5, ki_6, li_6, ki_7, li_7, ki_8, li_8, ki_9, li_9, ki_10, li_10, ki_11, li_11, ki_12, li_12, ki_13, ki_14, li_14, ki_15, ki_16, li_16, ki_17, li_17, ki_18, li_18, ki_19, li_19, ki_20, li_20, ki_21, li_21, ki_22, ki_23, li_23, ki_24, li_24, ki_25, li_25, ki_26, li_26, ki_27, li_27, ki_28, li_28, ki_29, ki_30, li_30, ki_199, li_199, ki_200, ki_207, ki_214, ki_215, ki_216, li_216, ki_217, li_217, ki_218, li_218, ki_219, li_219, ki_220, li_220, ki_221, li_221, ki_222, ki_223, li_223, ki_224, li_224, ki_225, li_225, ki_226, li_226, ki_227, li_227, ki_228, li_228, ki_229, li_229, ki_230, ki_231, li_231, ki_232, ki_233, li_233, ki_234, li_234, ki_235, li_235, ki_236, li_236, ki_237, li_237, ki_238, li_238, ki_239, li_239, ki_240, li_240, ki_241, li_241, ki_242, li_242, ki_243, li_243, ki_244, li_244, ki_245, li_245, tX4_setsThatSaw_0, kX4_setsThatSaw_0, tX4_setsThatSaw_26, kX4_setsThatSaw_26, tX4_setsThatSaw_72, kX4_setsThatSaw_72, tX4_setsThatSaw_78, kX4_setsThatSaw_78, tX4_setsThatSaw_85, kX4_setsThatSaw_85, tX4_setsThatSaw_92, kX4_setsThatSaw_92, tX4_setsThatSaw_102, kX4_setsThatSaw_102, tX4_setsThatSaw_104, kX4_setsThatSaw_104, hX4_setsThatSaw_26, ci_2, wc_X2_bitsOf, ci_0, ci_1, w_g64, wc_X4_sawTogether, lg_0, lg_1, lg_2, lg_3, lg_4, lg_5, lg_6, lg_7, lg_8, e0, s1, nI_leI, ← zn0, nI_eq, n_and, nI_add]
      try simp only [cm_1, cm_1000000, cm_1000001, cm_1000002, cm_1000003, cm_1000010, cm_1000100, lm_1000001, lm_1000002]
      refine ⟨fun z => absurd z (by omega), fun _ => ⟨fun z => ?_, fun z => ?_⟩⟩
      · have hn : ¬ stP C v k := fun q => z q.2.1
        rw [ctK_n hn, anK_n hn, orK_n hn] at hin
        exact hin
      · refine callOk (Nat.lt_succ_self d) (x_sawTogether h hw (by omega) ?_)
        try simp (disch := omega) only [w_N, w_iconst, w_lcst, w_iload, w_lload, w_aload, m_i_s, m_l_s, m_a_s, w_istore, w_lstore, w_astore, w_iinc, w_iadd, w_isub, w_imul, w_iand, w_ior, w_ixor, w_ishl, w_ishr, w_iushr, w_idiv, w_irem, w_ineg, w_ladd, w_lsub, w_lmul, w_ldiv, w_lrem, w_lcmp, w_i2l, w_l2i, w_i2b, w_i2s, w_dupi, w_dupr, w_popi, w_popr, w_dup2, w_goto, w_cut, w_switch, sw_nil, sw_cons, w_iald, w_bald, w_zald, w_aald, w_iast, w_bast, w_zast, w_ireturn, w_zr0, w_zr1, w_lreturn, w_areturn, w_vreturn, w_cpy, w_mmax, w_mmin, w_sald, w_slen, sc_nil, sc_i, sc_r, sc_l, tl_s, tl_n, ls1, ls2, lk1, hd0, Int.reduceToNat, Nat.reduceAdd, Nat.reduceLeDiff, Nat.reduceMul, true_and, and_true, w_icmp_eq, w_icmp_ne, w_icmp_lt, w_icmp_ge, w_icmp_gt, w_icmp_le, w_if_eq, w_if_ne, w_if_lt, w_if_ge, w_if_gt, w_if_le, ki_0, ki_1, ki_2, li_2, ki_3, li_3, ki_4, li_4, ki_5, li_5, ki_6, li_6, ki_7, li_7, ki_8, li_8, ki_9, li_9, ki_10, li_10, ki_11, li_11, ki_12, li_12, ki_13, ki_14, li_14, ki_15, ki_16, li_16, ki_17, li_17, ki_18, li_18, ki_19, li_19, ki_20, li_20, ki_21, li_21, ki_22, ki_23, li_23, ki_24, li_24, ki_25, li_25, ki_26, li_26, ki_27, li_27, ki_28, li_28, ki_29, ki_30, li_30, ki_199, li_199, ki_200, ki_207, ki_214, ki_215, ki_216, li_216, ki_217, li_217, ki_218, li_218, ki_219, li_219, ki_220, li_220, ki_221, li_221, ki_222, ki_223, li_223, ki_224, li_224, ki_225, li_225, ki_226, li_226, ki_227, li_227, ki_228, li_228, ki_229, li_229, ki_230, ki_231, li_231, ki_232, ki_233, li_233, ki_234, li_234, ki_235, li_235, ki_236, li_236, ki_237, li_237, ki_238, li_238, ki_239, li_239, ki_240, li_240, ki_241, li_241, ki_242, li_242, ki_243, li_243, ki_244, li_244, ki_245, li_245, tX4_setsThatSaw_0, kX4_setsThatSaw_0, tX4_setsThatSaw_26, kX4_setsThatSaw_26, tX4_setsThatSaw_72, kX4_setsThatSaw_72, tX4_setsThatSaw_78, kX4_setsThatSaw_78, tX4_setsThatSaw_85, kX4_setsThatSaw_85, tX4_setsThatSaw_92, kX4_setsThatSaw_92, tX4_setsThatSaw_102, kX4_setsThatSaw_102, tX4_setsThatSaw_104, kX4_setsThatSaw_104, hX4_setsThatSaw_26, ci_2, wc_X2_bitsOf, ci_0, ci_1, w_g64, wc_X4_sawTogether, lg_0, lg_1, lg_2, lg_3, lg_4, lg_5, lg_6, lg_7, lg_8, nI_eq, n_and, n_or, nI_add]
        try simp only [cm_1, cm_1000000, cm_1000001, cm_1000002, cm_1000003, cm_1000010, cm_1000100, lm_1000001, lm_1000002]
        refine ⟨fun y => ?_, fun y => ?_⟩
        · have hn : ¬ stP C v k := fun q => y q.2.2
          rw [ctK_n hn, anK_n hn, orK_n hn] at hin
          exact hin
        · have hy : stP C v k := ⟨by omega, z, y⟩
          rw [ctK_y hy, anK_y hy, orK_y hy] at hin
          exact hin
  exact loop (2 ^ C 0 0) 0 (by omega)
end
