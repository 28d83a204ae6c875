/-! games by draws -/
theorem lz {a : Nat} (h : a < 2 ^ 63) : lN a = (0 : Int64) ↔ a = 0 := by
  have := pk_lEQ (b := 0) h (by decide)
  rw [show lN 0 = (0 : Int64) from by decide] at this
  exact this
theorem lce {a b : Nat} (ha : a < 2 ^ 63) (hb : b < 2 ^ 63) : lg_cmp (lN a) (lN b) = nI 0 ↔ a = b := by rw [zn0, lg_cmp_eq, pk_lEQ ha hb]
def nx (x : Nat) : Nat := x * 16807 % 2147483647
def ds1 (C : Ci) (x : Nat) : Ci := if C 9 (x % C 0 0) = 2 then sit C (x % C 0 0) else if x % 3 = 0 ∧ x / 8 % C 0 0 ≠ x % C 0 0 then cu C 7 (x % C 0 0) (x / 8 % C 0 0) else C
def ds (C : Ci) (x : Nat) : Ci := if ds1 C x 4 0 = 1 then rol (ds1 C x) (x % C 0 0) else ds1 C x
theorem ds1_0 {C : Ci} {x : Nat} : ds1 C x 0 0 = C 0 0 ∧ ds1 C x 3 0 = C 3 0 ∧ ds1 C x 4 0 = C 4 0 := by
  unfold ds1
  split
  · exact ⟨rfl, rfl, rfl⟩
  · split <;> exact ⟨rfl, rfl, rfl⟩
theorem ds_0 {C : Ci} {x : Nat} : ds C x 0 0 = C 0 0 ∧ ds C x 3 0 = C 3 0 := by
  obtain ⟨h1, h2, _⟩ := @ds1_0 C x
  unfold ds
  split
  · exact ⟨h1, h2⟩
  · exact ⟨h1, h2⟩
theorem ds_4 {C : Ci} {x : Nat} (h : C 4 0 ≤ 1) : ds C x 4 0 = 0 := by
  obtain ⟨h1, h2, h3⟩ := @ds1_0 C x
  unfold ds
  split
  · rfl
  · omega
theorem wf_ds1 {C : Ci} (h : wf C) (x : Nat) : wf (ds1 C x) := by
  have hP := h.1
  have hm : x % C 0 0 < C 0 0 := Nat.mod_lt _ (by omega)
  have hm2 : x / 8 % C 0 0 < C 0 0 := Nat.mod_lt _ (by omega)
  unfold ds1
  split
  · exact wf_sit h hm
  · split
    · rename_i q; exact wf_l h hm2 q.2
    · exact h
theorem wf_ds {C : Ci} (h : wf C) (x : Nat) : wf (ds C x) := by
  have hP := h.1
  unfold ds
  split
  · exact wf_rol (wf_ds1 h x) (by rw [ds1_0.1]; exact Nat.mod_lt _ (by omega))
  · exact wf_ds1 h x
theorem ctK_or {f g e : Nat → Prop} [∀ j, Decidable (f j)] [∀ j, Decidable (g j)] [∀ j, Decidable (e j)] : ∀ k, (∀ j, j < k → (f j ↔ g j ∨ e j) ∧ ¬ (g j ∧ e j)) → ctK f k = ctK g k + ctK e k
  | 0, _ => rfl
  | k + 1, h => by
    have ih := ctK_or (f := f) (g := g) (e := e) k fun j hj => h j (by omega)
    obtain ⟨h1, h2⟩ := h k (by omega)
    by_cases q1 : g k
    · have q2 : ¬ e k := fun q => h2 ⟨q1, q⟩
      rw [ctK_y (h1.2 (Or.inl q1)), ctK_y q1, ctK_n q2]; omega
    · by_cases q2 : e k
      · rw [ctK_y (h1.2 (Or.inr q2)), ctK_n q1, ctK_y q2]; omega
      · rw [ctK_n (fun q => (h1.1 q).elim q1 q2), ctK_n q1, ctK_n q2]; omega
theorem wk_9 {C : Ci} {j : Nat} : wk C 9 j = 2 ↔ C 9 j = 2 := by
  unfold wk
  split
  · exact Iff.rfl
  · rename_i q
    rw [seeK_0 (by decide) (by decide)]
    unfold hit
    rw [cu_ne (by decide), cu_at]
    split
    · rename_i q2
      have : C 9 (C 7 (C 1 0)) = 0 := Decidable.byContradiction fun z => q (Or.inr (Or.inr (Or.inr (Or.inl z))))
      rw [q2, this]
      exact ⟨fun z => absurd z (by decide), fun z => absurd z (by decide)⟩
    · exact Iff.rfl
theorem ded_tk {C : Ci} : ded (tk C) = ded C + dth (wk (lkK C (C 0 0))) (C 0 0) := by
  unfold ded dth
  rw [tk_0]
  refine ctK_or _ fun j hj => ?_
  have e9 : tk C 9 j = if j < C 0 0 ∧ wk (lkK C (C 0 0)) 9 j = 1 then (if wk (lkK C (C 0 0)) 10 j ≤ 1 then 2 else 1) else wk (lkK C (C 0 0)) 9 j := by
    unfold tk
    rw [cu_ne (by decide)]
    rfl
  have e2 : wk (lkK C (C 0 0)) 9 j = 2 ↔ C 9 j = 2 := wk_9
  rw [e9]
  generalize wk (lkK C (C 0 0)) 9 j = a at *
  generalize wk (lkK C (C 0 0)) 10 j = b at *
  by_cases q : a = 1
  · rw [if_pos ⟨hj, q⟩]
    by_cases q3 : b ≤ 1
    · rw [if_pos q3]; constructor
      · exact ⟨fun _ => Or.inr ⟨q, q3⟩, fun _ => rfl⟩
      · intro z; have := e2.2 z.1; omega
    · rw [if_neg q3]; constructor
      · exact ⟨fun z => absurd z (by decide), fun z => by rcases z with z | z; have := e2.2 z; omega; exact absurd z.2 q3⟩
      · intro z; exact q3 z.2.2
  · rw [if_neg (fun z => q z.2)]; constructor
    · exact ⟨fun z => Or.inl (e2.1 z), fun z => by rcases z with z | z; exact e2.2 z; exact absurd z.1 q⟩
    · intro z; exact q z.2.1
section
variable {d : Nat} {M : Mm} {L : Ml} {Q : Qt} {C : Ci}
theorem x_disturb (h : rC M 215 C) (hw : wf C) {x : Nat} (hx : x < 2 ^ 31) (hq : ∀ M', rC M' 215 (ds C x) → fr 215 M M' → Q none M' L) : Good (d + 2) nX4_disturb [.ref 214, .long (lN x)] M L Q := by
  have hP := hw.1
  have e0 : M 215 0 = nI (C 0 0) := h.1 0 (by decide)
  have hm : x % C 0 0 < C 0 0 := Nat.mod_lt _ (by omega)
  have hm2 : x / 8 % C 0 0 < C 0 0 := Nat.mod_lt _ (by omega)
  have hd8 : x / 8 ≤ x := Nat.div_le_self _ _
  have h9 := (hw.2.2.2.2.2 _ hm).2.2.2.1
  have h4 := hw.2.2.2.1
  have e4 : M 215 4 = nI (C 4 0) := h.1 4 (by decide)
  have e9 : M 219 (x % C 0 0) = nI (C 9 (x % C 0 0)) := h.h hm
  have m3 : x % 3 < 3 := Nat.mod_lt _ (by decide)
  refine eX4_disturb _ _ ?_
  try simp (disch := omega) only [w_N, w_iconst, w_lcst, w_iload, w_lload, w_aload, m_i_s, m_l_s, m_a_s, w_istore, w_lstore, w_astore, w_iinc, w_iadd, w_isub, w_imul, w_iand, w_ior, w_ixor, w_ishl, w_ishr, w_iushr, w_idiv, w_irem, w_ineg, w_ladd, w_lsub, w_lmul, w_ldiv, w_lrem, w_lcmp, w_i2l, w_l2i, w_i2b, w_i2s, w_dupi, w_dupr, w_popi, w_popr, w_dup2, w_goto, w_cut, w_switch, sw_nil, sw_cons, w_iald, w_bald, w_zald, w_aald, w_iast, w_bast, w_zast, w_ireturn, w_zr0, w_zr1, w_lreturn, w_areturn, w_vreturn, w_cpy, w_mmax, w_mmin, w_sald, w_slen, sc_nil, sc_i, sc_r, sc_l, tl_s, tl_n, ls1, ls2, lk1, hd0, Int.reduceToNat, Nat.reduceAdd, Nat.reduceLeDiff, Nat.reduceMul, true_and, and_true, w_icmp_eq, w_icmp_ne, w_icmp_lt, w_icmp_ge, w_icmp_gt, w_icmp_le, w_if_eq, w_if_ne, w_if_lt, w_if_ge, w_if_gt, w_if_le, ki_0, ki_1, ki_2, li_2, ki_3, li_3, ki_4, li_4, ki_5, li_5, ki_6, li_6, ki_7, li_7, ki_8, li_8, ki_9, li_9, ki_10, li_10, ki_11, li_11, ki_12, li_12, ki_13, ki_14, li_14, ki_15, ki_16, li_16, ki_17, li_17, ki_18, li_18, ki_19, li_19, ki_20, li_20, ki_21, li_21, ki_22, ki_23, li_23, ki_24, li_24, ki_25, li_25, ki_26, li_26, ki_27, li_27, ki_28, li_28, ki_29, ki_30, li_30, ki_199, li_199, ki_200, ki_207, ki_214, ki_215, ki_216, li_216, ki_217, li_217, ki_218, li_218, ki_219, li_219, ki_220, li_220, ki_221, li_221, ki_222, ki_223, li_223, ki_224, li_224, ki_225, li_225, ki_226, li_226, ki_227, li_227, ki_228, li_228, ki_229, li_229, ki_230, ki_231, li_231, ki_232, ki_233, li_233, ki_234, li_234, ki_235, li_235, ki_236, li_236, ki_237, li_237, ki_238, li_238, ki_239, li_239, ki_240, li_240, ki_241, li_241, ki_242, li_242, ki_243, li_243, ki_244, li_244, ki_245, li_245, tX4_disturb_0, kX4_disturb_0, tX4_disturb_11, kX4_disturb_11, w_g128, w_g64, w_g73, ci_2, wc_X2_sitUp, cl_3, cl_0, cl_8, w_g71, w_g68, wc_X2_giveRole, lg_0, lg_1, lg_2, lg_3, lg_4, e0, ← zn0, nI_ltI, nI_l, pk_lRem, lN_i, lz]
  try simp only [cm_1, cm_1000000, cm_1000001, cm_1000002, cm_1000003, cm_1000010, cm_1000100, lm_1000001, lm_1000002]
  refine ⟨fun _ => ⟨by omega, exj (by omega) ?_⟩, fun z => absurd (by omega) z⟩
  rw [e9]
  simp (disch := omega) only [nI_eq]
  have hds : ds1 C x = if C 9 (x % C 0 0) = 2 then sit C (x % C 0 0) else if x % 3 = 0 ∧ x / 8 % C 0 0 ≠ x % C 0 0 then cu C 7 (x % C 0 0) (x / 8 % C 0 0) else C := rfl
  have fin : ∀ (N : Mm), rC N 215 (ds1 C x) → fr 215 M N → N 215 4 = nI (C 4 0) ∧ (¬ C 4 0 = 0 → CallOk (d + 2) nX2_giveRole [.ref 215, .int (nI (x % C 0 0))] N L fun r M' L' => r = none ∧ Q none M' L') ∧ (C 4 0 = 0 → Q none N L) := fun N g f => by
    obtain ⟨k1, k2, k3⟩ := @ds1_0 C x
    have e4' := g.1 4 (by decide)
    unfold ds at hq
    rw [k3] at hq e4'
    refine ⟨e4', fun z => ?_, fun z => ?_⟩
    · rw [if_pos (by omega)] at hq
      exact callOk (show d < d + 2 by omega) (x_giveRole isC_215 g (by rw [k1]; exact hP.2) fun M2 g2 f2 => ⟨rfl, hq M2 g2 (f.tr f2)⟩)
    · rw [if_neg (by omega)] at hq
      exact hq N g f
  clear hq
  have tail : ∀ (f : Nat) (N : Mm) (o4 : Option Value), rC N 215 (ds1 C x) → fr 215 M N → wp (wpN 72 (d + 2) tX4_disturb Q (f + 5)) (Runs 72 (d + 2) Q) (CallOk (d + 2)) Q (tb tX4_disturb 91) [some (.ref 214), some (.long (lN x)), none, some (.int (nI (x % C 0 0))), o4] [] N L := fun f N o4 g hf => by
    obtain ⟨q1, q2, q3⟩ := fin N g hf
    try simp (disch := omega) only [w_N, w_iconst, w_lcst, w_iload, w_lload, w_aload, m_i_s, m_l_s, m_a_s, w_istore, w_lstore, w_astore, w_iinc, w_iadd, w_isub, w_imul, w_iand, w_ior, w_ixor, w_ishl, w_ishr, w_iushr, w_idiv, w_irem, w_ineg, w_ladd, w_lsub, w_lmul, w_ldiv, w_lrem, w_lcmp, w_i2l, w_l2i, w_i2b, w_i2s, w_dupi, w_dupr, w_popi, w_popr, w_dup2, w_goto, w_cut, w_switch, sw_nil, sw_cons, w_iald, w_bald, w_zald, w_aald, w_iast, w_bast, w_zast, w_ireturn, w_zr0, w_zr1, w_lreturn, w_areturn, w_vreturn, w_cpy, w_mmax, w_mmin, w_sald, w_slen, sc_nil, sc_i, sc_r, sc_l, tl_s, tl_n, ls1, ls2, lk1, hd0, Int.reduceToNat, Nat.reduceAdd, Nat.reduceLeDiff, Nat.reduceMul, true_and, and_true, w_icmp_eq, w_icmp_ne, w_icmp_lt, w_icmp_ge, w_icmp_gt, w_icmp_le, w_if_eq, w_if_ne, w_if_lt, w_if_ge, w_if_gt, w_if_le, ki_0, ki_1, ki_2, li_2, ki_3, li_3, ki_4, li_4, ki_5, li_5, ki_6, li_6, ki_7, li_7, ki_8, li_8, ki_9, li_9, ki_10, li_10, ki_11, li_11, ki_12, li_12, ki_13, ki_14, li_14, ki_15, ki_16, li_16, ki_17, li_17, ki_18, li_18, ki_19, li_19, ki_20, li_20, ki_21, li_21, ki_22, ki_23, li_23, ki_24, li_24, ki_25, li_25, ki_26, li_26, ki_27, li_27, ki_28, li_28, ki_29, ki_30, li_30, ki_199, li_199, ki_200, ki_207, ki_214, ki_215, ki_216, li_216, ki_217, li_217, ki_218, li_218, ki_219, li_219, ki_220, li_220, ki_221, li_221, ki_222, ki_223, li_223, ki_224, li_224, ki_225, li_225, ki_226, li_226, ki_227, li_227, ki_228, li_228, ki_229, li_229, ki_230, ki_231, li_231, ki_232, ki_233, li_233, ki_234, li_234, ki_235, li_235, ki_236, li_236, ki_237, li_237, ki_238, li_238, ki_239, li_239, ki_240, li_240, ki_241, li_241, ki_242, li_242, ki_243, li_243, ki_244, li_244, ki_245, li_245, tX4_disturb_91, kX4_disturb_91, tX4_disturb_109, kX4_disturb_109, w_g128, w_g64, w_g73, ci_2, wc_X2_sitUp, cl_3, cl_0, cl_8, w_g71, w_g68, wc_X2_giveRole, lg_0, lg_1, lg_2, lg_3, lg_4, q1, ← zn0, nI_eq]
    try simp only [cm_1, cm_1000000, cm_1000001, cm_1000002, cm_1000003, cm_1000010, cm_1000100, lm_1000001, lm_1000002]
    refine ⟨q3, fun z => CallOk_mono (q2 z) fun r M' L' hh => ?_⟩
    obtain ⟨rfl, hh⟩ := hh
    try simp (disch := omega) only [w_N, w_iconst, w_lcst, w_iload, w_lload, w_aload, m_i_s, m_l_s, m_a_s, w_istore, w_lstore, w_astore, w_iinc, w_iadd, w_isub, w_imul, w_iand, w_ior, w_ixor, w_ishl, w_ishr, w_iushr, w_idiv, w_irem, w_ineg, w_ladd, w_lsub, w_lmul, w_ldiv, w_lrem, w_lcmp, w_i2l, w_l2i, w_i2b, w_i2s, w_dupi, w_dupr, w_popi, w_popr, w_dup2, w_goto, w_cut, w_switch, sw_nil, sw_cons, w_iald, w_bald, w_zald, w_aald, w_iast, w_bast, w_zast, w_ireturn, w_zr0, w_zr1, w_lreturn, w_areturn, w_vreturn, w_cpy, w_mmax, w_mmin, w_sald, w_slen, sc_nil, sc_i, sc_r, sc_l, tl_s, tl_n, ls1, ls2, lk1, hd0, Int.reduceToNat, Nat.reduceAdd, Nat.reduceLeDiff, Nat.reduceMul, true_and, and_true, w_icmp_eq, w_icmp_ne, w_icmp_lt, w_icmp_ge, w_icmp_gt, w_icmp_le, w_if_eq, w_if_ne, w_if_lt, w_if_ge, w_if_gt, w_if_le, ki_0, ki_1, ki_2, li_2, ki_3, li_3, ki_4, li_4, ki_5, li_5, ki_6, li_6, ki_7, li_7, ki_8, li_8, ki_9, li_9, ki_10, li_10, ki_11, li_11, ki_12, li_12, ki_13, ki_14, li_14, ki_15, ki_16, li_16, ki_17, li_17, ki_18, li_18, ki_19, li_19, ki_20, li_20, ki_21, li_21, ki_22, ki_23, li_23, ki_24, li_24, ki_25, li_25, ki_26, li_26, ki_27, li_27, ki_28, li_28, ki_29, ki_30, li_30, ki_199, li_199, ki_200, ki_207, ki_214, ki_215, ki_216, li_216, ki_217, li_217, ki_218, li_218, ki_219, li_219, ki_220, li_220, ki_221, li_221, ki_222, ki_223, li_223, ki_224, li_224, ki_225, li_225, ki_226, li_226, ki_227, li_227, ki_228, li_228, ki_229, li_229, ki_230, ki_231, li_231, ki_232, ki_233, li_233, ki_234, li_234, ki_235, li_235, ki_236, li_236, ki_237, li_237, ki_238, li_238, ki_239, li_239, ki_240, li_240, ki_241, li_241, ki_242, li_242, ki_243, li_243, ki_244, li_244, ki_245, li_245, tX4_disturb_91, kX4_disturb_91, tX4_disturb_109, kX4_disturb_109, w_g128, w_g64, w_g73, ci_2, wc_X2_sitUp, cl_3, cl_0, cl_8, w_g71, w_g68, wc_X2_giveRole, lg_0, lg_1, lg_2, lg_3, lg_4]
    try simp only [cm_1, cm_1000000, cm_1000001, cm_1000002, cm_1000003, cm_1000010, cm_1000100, lm_1000001, lm_1000002]
    exact hh
  refine ⟨fun z => ?_, fun z => ?_⟩
  · have d8 : lN x / lN 8 = lN (x / 8) := pk_lDiv (by omega) (by decide) (by decide)
    rw [if_neg z] at hds
    try simp (disch := omega) only [w_N, w_iconst, w_lcst, w_iload, w_lload, w_aload, m_i_s, m_l_s, m_a_s, w_istore, w_lstore, w_astore, w_iinc, w_iadd, w_isub, w_imul, w_iand, w_ior, w_ixor, w_ishl, w_ishr, w_iushr, w_idiv, w_irem, w_ineg, w_ladd, w_lsub, w_lmul, w_ldiv, w_lrem, w_lcmp, w_i2l, w_l2i, w_i2b, w_i2s, w_dupi, w_dupr, w_popi, w_popr, w_dup2, w_goto, w_cut, w_switch, sw_nil, sw_cons, w_iald, w_bald, w_zald, w_aald, w_iast, w_bast, w_zast, w_ireturn, w_zr0, w_zr1, w_lreturn, w_areturn, w_vreturn, w_cpy, w_mmax, w_mmin, w_sald, w_slen, sc_nil, sc_i, sc_r, sc_l, tl_s, tl_n, ls1, ls2, lk1, hd0, Int.reduceToNat, Nat.reduceAdd, Nat.reduceLeDiff, Nat.reduceMul, true_and, and_true, w_icmp_eq, w_icmp_ne, w_icmp_lt, w_icmp_ge, w_icmp_gt, w_icmp_le, w_if_eq, w_if_ne, w_if_lt, w_if_ge, w_if_gt, w_if_le, ki_0, ki_1, ki_2, li_2, ki_3, li_3, ki_4, li_4, ki_5, li_5, ki_6, li_6, ki_7, li_7, ki_8, li_8, ki_9, li_9, ki_10, li_10, ki_11, li_11, ki_12, li_12, ki_13, ki_14, li_14, ki_15, ki_16, li_16, ki_17, li_17, ki_18, li_18, ki_19, li_19, ki_20, li_20, ki_21, li_21, ki_22, ki_23, li_23, ki_24, li_24, ki_25, li_25, ki_26, li_26, ki_27, li_27, ki_28, li_28, ki_29, ki_30, li_30, ki_199, li_199, ki_200, ki_207, ki_214, ki_215, ki_216, li_216, ki_217, li_217, ki_218, li_218, ki_219, li_219, ki_220, li_220, ki_221, li_221, ki_222, ki_223, li_223, ki_224, li_224, ki_225, li_225, ki_226, li_226, ki_227, li_227, ki_228, li_228, ki_229, li_229, ki_230, ki_231, li_231, ki_232, ki_233, li_233, ki_234, li_234, ki_235, li_235, ki_236, li_236, ki_237, li_237, ki_238, li_238, ki_239, li_239, ki_240, li_240, ki_241, li_241, ki_242, li_242, ki_243, li_243, ki_244, li_244, ki_245, li_245, tX4_disturb_47, kX4_disturb_47, w_g128, w_g64, w_g73, ci_2, wc_X2_sitUp, cl_3, cl_0, cl_8, w_g71, w_g68, wc_X2_giveRole, lg_0, lg_1, lg_2, lg_3, lg_4, ← zn0, nI_eq, e0, nI_l, pk_lRem, d8, lN_i, lz, lce]
    try simp only [cm_1, cm_1000000, cm_1000001, cm_1000002, cm_1000003, cm_1000010, cm_1000100, lm_1000001, lm_1000002]
    refine ⟨by decide, fun y => ?_, fun y => ⟨by decide, by omega, fun w => ?_, fun w => exj (by omega) ?_⟩⟩
    · rw [if_neg (fun q => y q.1)] at hds
      exact tail _ M _ (by rw [hds]; exact h) fr.rf
    · rw [if_neg (fun q => q.2 w)] at hds
      exact tail _ M _ (by rw [hds]; exact h) fr.rf
    · rw [if_pos ⟨y, w⟩] at hds
      have g2 := h.a7 (x % C 0 0) (x / 8 % C 0 0)
      rw [lkC_e (by omega), ← hds] at g2
      obtain ⟨q1, q2, q3⟩ := fin _ g2 (fr.rf.um (by decide) (by decide))
      rw [q1]
      simp (disch := omega) only [nI_eq]
      refine ⟨fun v => ?_, fun v => CallOk_mono (q2 v) fun r M' L' hh => ?_⟩
      · try simp (disch := omega) only [w_N, w_iconst, w_lcst, w_iload, w_lload, w_aload, m_i_s, m_l_s, m_a_s, w_istore, w_lstore, w_astore, w_iinc, w_iadd, w_isub, w_imul, w_iand, w_ior, w_ixor, w_ishl, w_ishr, w_iushr, w_idiv, w_irem, w_ineg, w_ladd, w_lsub, w_lmul, w_ldiv, w_lrem, w_lcmp, w_i2l, w_l2i, w_i2b, w_i2s, w_dupi, w_dupr, w_popi, w_popr, w_dup2, w_goto, w_cut, w_switch, sw_nil, sw_cons, w_iald, w_bald, w_zald, w_aald, w_iast, w_bast, w_zast, w_ireturn, w_zr0, w_zr1, w_lreturn, w_areturn, w_vreturn, w_cpy, w_mmax, w_mmin, w_sald, w_slen, sc_nil, sc_i, sc_r, sc_l, tl_s, tl_n, ls1, ls2, lk1, hd0, Int.reduceToNat, Nat.reduceAdd, Nat.reduceLeDiff, Nat.reduceMul, true_and, and_true, w_icmp_eq, w_icmp_ne, w_icmp_lt, w_icmp_ge, w_icmp_gt, w_icmp_le, w_if_eq, w_if_ne, w_if_lt, w_if_ge, w_if_gt, w_if_le, ki_0, ki_1, ki_2, li_2, ki_3, li_3, ki_4, li_4, ki_5, li_5, ki_6, li_6, ki_7, li_7, ki_8, li_8, ki_9, li_9, ki_10, li_10, ki_11, li_11, ki_12, li_12, ki_13, ki_14, li_14, ki_15, ki_16, li_16, ki_17, li_17, ki_18, li_18, ki_19, li_19, ki_20, li_20, ki_21, li_21, ki_22, ki_23, li_23, ki_24, li_24, ki_25, li_25, ki_26, li_26, ki_27, li_27, ki_28, li_28, ki_29, ki_30, li_30, ki_199, li_199, ki_200, ki_207, ki_214, ki_215, ki_216, li_216, ki_217, li_217, ki_218, li_218, ki_219, li_219, ki_220, li_220, ki_221, li_221, ki_222, ki_223, li_223, ki_224, li_224, ki_225, li_225, ki_226, li_226, ki_227, li_227, ki_228, li_228, ki_229, li_229, ki_230, ki_231, li_231, ki_232, ki_233, li_233, ki_234, li_234, ki_235, li_235, ki_236, li_236, ki_237, li_237, ki_238, li_238, ki_239, li_239, ki_240, li_240, ki_241, li_241, ki_242, li_242, ki_243, li_243, ki_244, li_244, ki_245, li_245, tX4_disturb_109, kX4_disturb_109, w_g128, w_g64, w_g73, ci_2, wc_X2_sitUp, cl_3, cl_0, cl_8, w_g71, w_g68, wc_X2_giveRole, lg_0, lg_1, lg_2, lg_3, lg_4]
        try simp only [cm_1, cm_1000000, cm_1000001, cm_1000002, cm_1000003, cm_1000010, cm_1000100, lm_1000001, lm_1000002]
        exact q3 v
      · obtain ⟨rfl, hh⟩ := hh
        try simp (disch := omega) only [w_N, w_iconst, w_lcst, w_iload, w_lload, w_aload, m_i_s, m_l_s, m_a_s, w_istore, w_lstore, w_astore, w_iinc, w_iadd, w_isub, w_imul, w_iand, w_ior, w_ixor, w_ishl, w_ishr, w_iushr, w_idiv, w_irem, w_ineg, w_ladd, w_lsub, w_lmul, w_ldiv, w_lrem, w_lcmp, w_i2l, w_l2i, w_i2b, w_i2s, w_dupi, w_dupr, w_popi, w_popr, w_dup2, w_goto, w_cut, w_switch, sw_nil, sw_cons, w_iald, w_bald, w_zald, w_aald, w_iast, w_bast, w_zast, w_ireturn, w_zr0, w_zr1, w_lreturn, w_areturn, w_vreturn, w_cpy, w_mmax, w_mmin, w_sald, w_slen, sc_nil, sc_i, sc_r, sc_l, tl_s, tl_n, ls1, ls2, lk1, hd0, Int.reduceToNat, Nat.reduceAdd, Nat.reduceLeDiff, Nat.reduceMul, true_and, and_true, w_icmp_eq, w_icmp_ne, w_icmp_lt, w_icmp_ge, w_icmp_gt, w_icmp_le, w_if_eq, w_if_ne, w_if_lt, w_if_ge, w_if_gt, w_if_le, ki_0, ki_1, ki_2, li_2, ki_3, li_3, ki_4, li_4, ki_5, li_5, ki_6, li_6, ki_7, li_7, ki_8, li_8, ki_9, li_9, ki_10, li_10, ki_11, li_11, ki_12, li_12, ki_13, ki_14, li_14, ki_15, ki_16, li_16, ki_17, li_17, ki_18, li_18, ki_19, li_19, ki_20, li_20, ki_21, li_21, ki_22, ki_23, li_23, ki_24, li_24, ki_25, li_25, ki_26, li_26, ki_27, li_27, ki_28, li_28, ki_29, ki_30, li_30, ki_199, li_199, ki_200, ki_207, ki_214, ki_215, ki_216, li_216, ki_217, li_217, ki_218, li_218, ki_219, li_219, ki_220, li_220, ki_221, li_221, ki_222, ki_223, li_223, ki_224, li_224, ki_225, li_225, ki_226, li_226, ki_227, li_227, ki_228, li_228, ki_229, li_229, ki_230, ki_231, li_231, ki_232, ki_233, li_233, ki_234, li_234, ki_235, li_235, ki_236, li_236, ki_237, li_237, ki_238, li_238, ki_239, li_239, ki_240, li_240, ki_241, li_241, ki_242, li_242, ki_243, li_243, ki_244, li_244, ki_245, li_245, tX4_disturb_109, kX4_disturb_109, w_g128, w_g64, w_g73, ci_2, wc_X2_sitUp, cl_3, cl_0, cl_8, w_g71, w_g68, wc_X2_giveRole, lg_0, lg_1, lg_2, lg_3, lg_4]
        try simp only [cm_1, cm_1000000, cm_1000001, cm_1000002, cm_1000003, cm_1000010, cm_1000100, lm_1000001, lm_1000002]
        exact hh
  · rw [if_pos z] at hds
    refine callOk (show d + 1 < d + 2 by omega) (x_sitUp isC_215 h hP.2 hm fun M2 g2 f2 => ?_)
    rw [← hds] at g2
    try simp (disch := omega) only [w_N, w_iconst, w_lcst, w_iload, w_lload, w_aload, m_i_s, m_l_s, m_a_s, w_istore, w_lstore, w_astore, w_iinc, w_iadd, w_isub, w_imul, w_iand, w_ior, w_ixor, w_ishl, w_ishr, w_iushr, w_idiv, w_irem, w_ineg, w_ladd, w_lsub, w_lmul, w_ldiv, w_lrem, w_lcmp, w_i2l, w_l2i, w_i2b, w_i2s, w_dupi, w_dupr, w_popi, w_popr, w_dup2, w_goto, w_cut, w_switch, sw_nil, sw_cons, w_iald, w_bald, w_zald, w_aald, w_iast, w_bast, w_zast, w_ireturn, w_zr0, w_zr1, w_lreturn, w_areturn, w_vreturn, w_cpy, w_mmax, w_mmin, w_sald, w_slen, sc_nil, sc_i, sc_r, sc_l, tl_s, tl_n, ls1, ls2, lk1, hd0, Int.reduceToNat, Nat.reduceAdd, Nat.reduceLeDiff, Nat.reduceMul, true_and, and_true, w_icmp_eq, w_icmp_ne, w_icmp_lt, w_icmp_ge, w_icmp_gt, w_icmp_le, w_if_eq, w_if_ne, w_if_lt, w_if_ge, w_if_gt, w_if_le, ki_0, ki_1, ki_2, li_2, ki_3, li_3, ki_4, li_4, ki_5, li_5, ki_6, li_6, ki_7, li_7, ki_8, li_8, ki_9, li_9, ki_10, li_10, ki_11, li_11, ki_12, li_12, ki_13, ki_14, li_14, ki_15, ki_16, li_16, ki_17, li_17, ki_18, li_18, ki_19, li_19, ki_20, li_20, ki_21, li_21, ki_22, ki_23, li_23, ki_24, li_24, ki_25, li_25, ki_26, li_26, ki_27, li_27, ki_28, li_28, ki_29, ki_30, li_30, ki_199, li_199, ki_200, ki_207, ki_214, ki_215, ki_216, li_216, ki_217, li_217, ki_218, li_218, ki_219, li_219, ki_220, li_220, ki_221, li_221, ki_222, ki_223, li_223, ki_224, li_224, ki_225, li_225, ki_226, li_226, ki_227, li_227, ki_228, li_228, ki_229, li_229, ki_230, ki_231, li_231, ki_232, ki_233, li_233, ki_234, li_234, ki_235, li_235, ki_236, li_236, ki_237, li_237, ki_238, li_238, ki_239, li_239, ki_240, li_240, ki_241, li_241, ki_242, li_242, ki_243, li_243, ki_244, li_244, ki_245, li_245, w_g128, w_g64, w_g73, ci_2, wc_X2_sitUp, cl_3, cl_0, cl_8, w_g71, w_g68, wc_X2_giveRole, lg_0, lg_1, lg_2, lg_3, lg_4]
    try simp only [cm_1, cm_1000000, cm_1000001, cm_1000002, cm_1000003, cm_1000010, cm_1000100, lm_1000001, lm_1000002]
    exact tail _ M2 _ g2 f2
end
