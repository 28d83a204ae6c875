theorem rlK_s {C : Ci} {p k : Nat} : cu (rlK C p k) 11 k 0 = rlK C p (k + 1) := by
  funext x y
  by_cases h1 : x = 11
  · subst h1
    rw [cu_at]
    unfold rlK
    by_cases h2 : y = k
    · rw [if_pos h2, if_pos ⟨rfl, by omega⟩]
    · rw [if_neg h2]
      by_cases h3 : y < k
      · rw [if_pos ⟨rfl, h3⟩, if_pos ⟨rfl, by omega⟩]
      · rw [if_neg (fun q => h3 q.2), if_neg (fun q => h3 (by omega))]
  · rw [cu_ne h1]
    unfold rlK
    rw [if_neg (fun q => h1 q.1), if_neg (fun q => h1 q.1)]
theorem rlK_0 {C : Ci} {p : Nat} : rlK C p 0 = cu (cu C 1 0 p) 4 0 0 := by
  funext x y
  unfold rlK
  rw [if_neg (fun q => by omega)]
theorem fdK_0 {C : Ci} : fdK C 0 = C := by
  funext x y
  unfold fdK
  rw [if_neg (fun q => by omega)]
theorem lkK_0 {C : Ci} : lkK C 0 = C := by
  funext x y
  unfold lkK
  by_cases h : x = 7
  · rw [if_pos h, if_neg (by omega)]
  · rw [if_neg h]
theorem lkK_s {C : Ci} {k : Nat} : cu (lkK C k) 7 k (nl C k) = lkK C (k + 1) := by
  funext x y
  by_cases h1 : x = 7
  · subst h1
    rw [cu_at, lkK_7, lkK_7]
    by_cases h2 : y = k
    · rw [if_pos h2, if_pos (by omega), h2]
    · rw [if_neg h2]
      by_cases h3 : y < k
      · rw [if_pos h3, if_pos (by omega)]
      · rw [if_neg h3, if_neg (by omega)]
  · rw [cu_ne h1, lkK_ne h1, lkK_ne h1]
theorem nnF_lkK {C : Ci} {k p : Nat} : ∀ n i, nnF (lkK C k) p n i = nnF C p n i
  | 0, _ => rfl
  | n + 1, i => by
    unfold nnF
    rw [nnF_lkK n (i + 1), lkK_ne (x := 9) (by decide), lkK_ne (x := 0) (by decide)]
theorem nl_lkK {C : Ci} {k : Nat} : nl (lkK C k) k = nl C k := by
  unfold nl nnd
  rw [nnF_lkK, lkK_ne (x := 9) (by decide), lkK_ne (x := 5) (by decide), lkK_ne (x := 6) (by decide), lkK_ne (x := 0) (by decide), lkK_ne (x := 3) (by decide), lkK_7, if_neg (Nat.lt_irrefl k)]
/-- the next one to fade -/
theorem fdK_s {C : Ci} {k : Nat} (h : ¬ C 9 k = 1) : fdK C k = fdK C (k + 1) := by
  funext x y
  unfold fdK
  by_cases h1 : y < k ∧ C 9 y = 1
  · rw [if_pos h1, if_pos (show y < k + 1 ∧ C 9 y = 1 from ⟨by omega, h1.2⟩)]
  · rw [if_neg h1, if_neg]
    intro q
    by_cases hy : y = k
    · exact h (by rw [← hy]; exact q.2)
    · exact h1 ⟨by omega, q.2⟩
theorem fdK_at {C : Ci} {k x : Nat} : fdK C k x k = C x k := by
  unfold fdK
  rw [if_neg (fun q => by omega)]
theorem fdK_t {C : Ci} {k : Nat} (h : C 9 k = 1) (h1 : ¬ C 10 k ≤ 1) : cu (fdK C k) 10 k (C 10 k - 1) = fdK C (k + 1) := by
  funext x y
  by_cases hy : y = k
  · subst hy
    by_cases hx : x = 10
    · subst hx
      rw [cu_s]
      unfold fdK
      rw [if_pos ⟨by omega, h⟩, if_pos rfl]
    · rw [cu_ne hx, fdK_at]
      unfold fdK
      rw [if_pos ⟨by omega, h⟩, if_neg hx]
      by_cases h9 : x = 9
      · subst h9; rw [if_pos rfl, if_neg h1]; exact h
      · rw [if_neg h9]
        by_cases h7 : x = 7
        · subst h7; rw [if_pos rfl, if_neg h1]
        · rw [if_neg h7]
  · have e : cu (fdK C k) 10 k (C 10 k - 1) x y = fdK C k x y := by
      by_cases hx : x = 10
      · subst hx; exact cu_nj hy
      · exact cu_ne hx
    rw [e]
    unfold fdK
    by_cases h3 : y < k ∧ C 9 y = 1
    · rw [if_pos h3, if_pos (show y < k + 1 ∧ C 9 y = 1 from ⟨by omega, h3.2⟩)]
    · rw [if_neg h3, if_neg (fun q => h3 ⟨by omega, q.2⟩)]
theorem fdK_d {C : Ci} {k : Nat} (h : C 9 k = 1) (h1 : C 10 k ≤ 1) : cu (cu (cu (fdK C k) 10 k 0) 9 k 2) 7 k 99 = fdK C (k + 1) := by
  funext x y
  by_cases hy : y = k
  · subst hy
    by_cases h7 : x = 7
    · subst h7; rw [cu_s]; unfold fdK; rw [if_pos ⟨by omega, h⟩, if_neg (by decide), if_neg (by decide), if_pos rfl, if_pos h1]
    · rw [cu_ne h7]
      by_cases h9 : x = 9
      · subst h9; rw [cu_s]; unfold fdK; rw [if_pos ⟨by omega, h⟩, if_neg (by decide), if_pos rfl, if_pos h1]
      · rw [cu_ne h9]
        by_cases hx : x = 10
        · subst hx; rw [cu_s]; unfold fdK; rw [if_pos ⟨by omega, h⟩, if_pos rfl]; omega
        · rw [cu_ne hx, fdK_at]; unfold fdK; rw [if_pos ⟨by omega, h⟩, if_neg hx, if_neg h9, if_neg h7]
  · have e : ∀ (D : Ci) f v, cu D f k v x y = D x y := by
      intro D f v
      by_cases hx : x = f
      · subst hx; exact cu_nj hy
      · exact cu_ne hx
    rw [e, e, e]
    unfold fdK
    by_cases h3 : y < k ∧ C 9 y = 1
    · rw [if_pos h3, if_pos (show y < k + 1 ∧ C 9 y = 1 from ⟨by omega, h3.2⟩)]
    · rw [if_neg h3, if_neg (fun q => h3 ⟨by omega, q.2⟩)]
section
variable {d c : Nat} {M : Mm} {L : Ml} {Q : Qt} {C : Ci}
theorem x_giveRole (hc : isC c) (h : rC M c C) (hP : C 0 0 ≤ 8) {p : Nat} (hq : ∀ M', rC M' c (rol C p) → fr c M M' → Q none M' L) : Good d nX2_giveRole [.ref c, .int (nI p)] M L Q := by
  obtain ⟨k0, k1, l1⟩ := isC_f c hc
  refine eX2_giveRole _ _ ?_
  simp (disch := omega) only [w_N, w_iconst, w_lcst, w_iload, w_lload, w_aload, m_i_s, m_l_s, m_a_s, w_istore, w_lstore, w_astore, w_iinc, w_iadd, w_isub, w_imul, w_iand, w_ior, w_ixor, w_ishl, w_ishr, w_iushr, w_idiv, w_irem, w_ineg, w_ladd, w_lsub, w_lmul, w_ldiv, w_lrem, w_lcmp, w_i2l, w_l2i, w_i2b, w_i2s, w_dupi, w_dupr, w_popi, w_popr, w_dup2, w_goto, w_cut, w_switch, sw_nil, sw_cons, w_iald, w_bald, w_zald, w_aald, w_iast, w_bast, w_zast, w_ireturn, w_zr0, w_zr1, w_lreturn, w_areturn, w_vreturn, w_cpy, w_mmax, w_mmin, w_sald, w_slen, sc_nil, sc_i, sc_r, sc_l, tl_s, tl_n, ls1, ls2, lk1, hd0, Int.reduceToNat, Nat.reduceAdd, Nat.reduceLeDiff, Nat.reduceMul, true_and, and_true, w_icmp_eq, w_icmp_ne, w_icmp_lt, w_icmp_ge, w_icmp_gt, w_icmp_le, w_if_eq, w_if_ne, w_if_lt, w_if_ge, w_if_gt, w_if_le, tX2_giveRole_0, kX2_giveRole_0, tX2_giveRole_12, kX2_giveRole_12, tX2_giveRole_33, kX2_giveRole_33, hX2_giveRole_12, w_p65, ci_0, w_p68, w_g64, w_g75, ci_1, lg_0, lg_1, lg_2, k0, zb0]
  try simp only [cm_1, cm_1000000, cm_1000001, cm_1000002, cm_1000003, cm_1000010, cm_1000100, lm_1000001, lm_1000002]
  have loop : ∀ m k (M1 : Mm), k + m = C 0 0 → rC M1 c (rlK C p k) → fr c M M1 → Runs nX2_giveRole d Q 12 [some (.ref c), some (.int (nI p)), some (.int (nI k))] [] M1 L := by
    intro m
    induction m with
    | zero =>
      intro k M1 hk h1 hf
      have e0 : M1 c 0 = nI (C 0 0) := h1.1 0 (by decide)
      refine wpH_runs oX2_giveRole 60 12 oX2_giveRole_12 ?_
      simp (disch := omega) only [w_N, w_iconst, w_lcst, w_iload, w_lload, w_aload, m_i_s, m_l_s, m_a_s, w_istore, w_lstore, w_astore, w_iinc, w_iadd, w_isub, w_imul, w_iand, w_ior, w_ixor, w_ishl, w_ishr, w_iushr, w_idiv, w_irem, w_ineg, w_ladd, w_lsub, w_lmul, w_ldiv, w_lrem, w_lcmp, w_i2l, w_l2i, w_i2b, w_i2s, w_dupi, w_dupr, w_popi, w_popr, w_dup2, w_goto, w_cut, w_switch, sw_nil, sw_cons, w_iald, w_bald, w_zald, w_aald, w_iast, w_bast, w_zast, w_ireturn, w_zr0, w_zr1, w_lreturn, w_areturn, w_vreturn, w_cpy, w_mmax, w_mmin, w_sald, w_slen, sc_nil, sc_i, sc_r, sc_l, tl_s, tl_n, ls1, ls2, lk1, hd0, Int.reduceToNat, Nat.reduceAdd, Nat.reduceLeDiff, Nat.reduceMul, true_and, and_true, w_icmp_eq, w_icmp_ne, w_icmp_lt, w_icmp_ge, w_icmp_gt, w_icmp_le, w_if_eq, w_if_ne, w_if_lt, w_if_ge, w_if_gt, w_if_le, tX2_giveRole_0, kX2_giveRole_0, tX2_giveRole_12, kX2_giveRole_12, tX2_giveRole_33, kX2_giveRole_33, hX2_giveRole_12, w_p65, ci_0, w_p68, w_g64, w_g75, ci_1, lg_0, lg_1, lg_2, k0, e0, nI_leI]
      try simp only [cm_1, cm_1000000, cm_1000001, cm_1000002, cm_1000003, cm_1000010, cm_1000100, lm_1000001, lm_1000002]
      refine ⟨fun _ => hq M1 ?_ hf, fun z => absurd (by omega) z⟩
      unfold rol
      rw [show C 0 0 = k by omega]
      exact h1
    | succ m ih =>
      intro k M1 hk h1 hf
      have e0 : M1 c 0 = nI (C 0 0) := h1.1 0 (by decide)
      refine wpH_runs oX2_giveRole 60 12 oX2_giveRole_12 ?_
      simp (disch := omega) only [w_N, w_iconst, w_lcst, w_iload, w_lload, w_aload, m_i_s, m_l_s, m_a_s, w_istore, w_lstore, w_astore, w_iinc, w_iadd, w_isub, w_imul, w_iand, w_ior, w_ixor, w_ishl, w_ishr, w_iushr, w_idiv, w_irem, w_ineg, w_ladd, w_lsub, w_lmul, w_ldiv, w_lrem, w_lcmp, w_i2l, w_l2i, w_i2b, w_i2s, w_dupi, w_dupr, w_popi, w_popr, w_dup2, w_goto, w_cut, w_switch, sw_nil, sw_cons, w_iald, w_bald, w_zald, w_aald, w_iast, w_bast, w_zast, w_ireturn, w_zr0, w_zr1, w_lreturn, w_areturn, w_vreturn, w_cpy, w_mmax, w_mmin, w_sald, w_slen, sc_nil, sc_i, sc_r, sc_l, tl_s, tl_n, ls1, ls2, lk1, hd0, Int.reduceToNat, Nat.reduceAdd, Nat.reduceLeDiff, Nat.reduceMul, true_and, and_true, w_icmp_eq, w_icmp_ne, w_icmp_lt, w_icmp_ge, w_icmp_gt, w_icmp_le, w_if_eq, w_if_ne, w_if_lt, w_if_ge, w_if_gt, w_if_le, tX2_giveRole_0, kX2_giveRole_0, tX2_giveRole_12, kX2_giveRole_12, tX2_giveRole_33, kX2_giveRole_33, hX2_giveRole_12, w_p65, ci_0, w_p68, w_g64, w_g75, ci_1, lg_0, lg_1, lg_2, k0, k1, l1, e0, nI_leI]
      try simp only [cm_1, cm_1000000, cm_1000001, cm_1000002, cm_1000003, cm_1000010, cm_1000100, lm_1000001, lm_1000002]
      refine ⟨fun z => absurd z (by omega), fun _ => exj (by omega) ?_⟩
      rw [nI_add]
      exact ih (k + 1) _ (by omega) (by rw [← rlK_s]; exact h1.a11 k 0) (hf.um (by omega) (by omega))
  exact loop (C 0 0) 0 _ (by omega) (by rw [rlK_0]; exact (h.sc (by decide) (by decide)).sc (by decide) (by decide)) ((fr.rf.um (by omega) (by omega)).um (by omega) (by omega))
theorem x_sitUp (hc : isC c) (h : rC M c C) (hP : C 0 0 ≤ 8) {p : Nat} (hp : p < C 0 0) (hq : ∀ M', rC M' c (sit C p) → fr c M M' → Q none M' L) : Good (d + 1) nX2_sitUp [.ref c, .int (nI p)] M L Q := by
  obtain ⟨k0, k1, l1⟩ := isC_f c hc
  refine eX2_sitUp _ _ ?_
  simp (disch := omega) only [w_N, w_iconst, w_lcst, w_iload, w_lload, w_aload, m_i_s, m_l_s, m_a_s, w_istore, w_lstore, w_astore, w_iinc, w_iadd, w_isub, w_imul, w_iand, w_ior, w_ixor, w_ishl, w_ishr, w_iushr, w_idiv, w_irem, w_ineg, w_ladd, w_lsub, w_lmul, w_ldiv, w_lrem, w_lcmp, w_i2l, w_l2i, w_i2b, w_i2s, w_dupi, w_dupr, w_popi, w_popr, w_dup2, w_goto, w_cut, w_switch, sw_nil, sw_cons, w_iald, w_bald, w_zald, w_aald, w_iast, w_bast, w_zast, w_ireturn, w_zr0, w_zr1, w_lreturn, w_areturn, w_vreturn, w_cpy, w_mmax, w_mmin, w_sald, w_slen, sc_nil, sc_i, sc_r, sc_l, tl_s, tl_n, ls1, ls2, lk1, hd0, Int.reduceToNat, Nat.reduceAdd, Nat.reduceLeDiff, Nat.reduceMul, true_and, and_true, w_icmp_eq, w_icmp_ne, w_icmp_lt, w_icmp_ge, w_icmp_gt, w_icmp_le, w_if_eq, w_if_ne, w_if_lt, w_if_ge, w_if_gt, w_if_le, tX2_sitUp_0, kX2_sitUp_0, w_g73, ci_0, w_g74, w_g75, w_g71, wc_X2_above, lg_0, lg_1, k0, k1, l1]
  try simp only [cm_1, cm_1000000, cm_1000001, cm_1000002, cm_1000003, cm_1000010, cm_1000100, lm_1000001, lm_1000002]
  refine exj (by omega) (exj (by omega) (exj (by omega) ?_))
  have h3 := ((h.a9 p 0).a10 p 0).a11 p 0
  refine callOk (Nat.lt_succ_self d) (x_above hc h3 hP (by omega) ?_)
  simp (disch := omega) only [w_N, w_iconst, w_lcst, w_iload, w_lload, w_aload, m_i_s, m_l_s, m_a_s, w_istore, w_lstore, w_astore, w_iinc, w_iadd, w_isub, w_imul, w_iand, w_ior, w_ixor, w_ishl, w_ishr, w_iushr, w_idiv, w_irem, w_ineg, w_ladd, w_lsub, w_lmul, w_ldiv, w_lrem, w_lcmp, w_i2l, w_l2i, w_i2b, w_i2s, w_dupi, w_dupr, w_popi, w_popr, w_dup2, w_goto, w_cut, w_switch, sw_nil, sw_cons, w_iald, w_bald, w_zald, w_aald, w_iast, w_bast, w_zast, w_ireturn, w_zr0, w_zr1, w_lreturn, w_areturn, w_vreturn, w_cpy, w_mmax, w_mmin, w_sald, w_slen, sc_nil, sc_i, sc_r, sc_l, tl_s, tl_n, ls1, ls2, lk1, hd0, Int.reduceToNat, Nat.reduceAdd, Nat.reduceLeDiff, Nat.reduceMul, true_and, and_true, w_icmp_eq, w_icmp_ne, w_icmp_lt, w_icmp_ge, w_icmp_gt, w_icmp_le, w_if_eq, w_if_ne, w_if_lt, w_if_ge, w_if_gt, w_if_le, tX2_sitUp_0, kX2_sitUp_0, w_g73, ci_0, w_g74, w_g75, w_g71, wc_X2_above, lg_0, lg_1, k1, l1]
  try simp only [cm_1, cm_1000000, cm_1000001, cm_1000002, cm_1000003, cm_1000010, cm_1000100, lm_1000001, lm_1000002]
  refine exj (by omega) (hq _ ?_ (((fr.rf.um (by omega) (by omega)).um (by omega) (by omega)).um (by omega) (by omega) |>.um (by omega) (by omega)))
  have := h3.a7 p (abv (C 0 0) p)
  rw [lkC_e (by have := abv_lt (P := C 0 0) (s := p); unfold abv; split <;> omega)] at this
  exact this
theorem x_isAsleep (hc : isC c) (h : rC M c C) (h5 : C 5 0 < 256) {p : Nat} (hp : p < 9) (hq : Q (some (.int (if C 5 0 / 2 ^ p % 2 = 1 then nI 1 else nI 0))) M L) : Good d nX2_isAsleep [.ref c, .int (nI p)] M L Q := by
  obtain ⟨k0, k1, l1⟩ := isC_f c hc
  have e5 := h.1 5 (by decide)
  refine eX2_isAsleep _ _ ?_
  have hm : C 5 0 / 2 ^ p % 2 < 2 := Nat.mod_lt _ (by decide)
  simp (disch := omega) only [w_N, w_iconst, w_lcst, w_iload, w_lload, w_aload, m_i_s, m_l_s, m_a_s, w_istore, w_lstore, w_astore, w_iinc, w_iadd, w_isub, w_imul, w_iand, w_ior, w_ixor, w_ishl, w_ishr, w_iushr, w_idiv, w_irem, w_ineg, w_ladd, w_lsub, w_lmul, w_ldiv, w_lrem, w_lcmp, w_i2l, w_l2i, w_i2b, w_i2s, w_dupi, w_dupr, w_popi, w_popr, w_dup2, w_goto, w_cut, w_switch, sw_nil, sw_cons, w_iald, w_bald, w_zald, w_aald, w_iast, w_bast, w_zast, w_ireturn, w_zr0, w_zr1, w_lreturn, w_areturn, w_vreturn, w_cpy, w_mmax, w_mmin, w_sald, w_slen, sc_nil, sc_i, sc_r, sc_l, tl_s, tl_n, ls1, ls2, lk1, hd0, Int.reduceToNat, Nat.reduceAdd, Nat.reduceLeDiff, Nat.reduceMul, true_and, and_true, w_icmp_eq, w_icmp_ne, w_icmp_lt, w_icmp_ge, w_icmp_gt, w_icmp_le, w_if_eq, w_if_ne, w_if_lt, w_if_ge, w_if_gt, w_if_le, tX2_isAsleep_0, kX2_isAsleep_0, tX2_isAsleep_16, kX2_isAsleep_16, tX2_isAsleep_17, kX2_isAsleep_17, w_g69, ci_1, ci_0, lg_0, lg_1, k0, e5, shr1 _ h5 _ hp, nI_eq]
  try simp only [cm_1, cm_1000000, cm_1000001, cm_1000002, cm_1000003, cm_1000010, cm_1000100, lm_1000001, lm_1000002]
  refine ⟨fun z => ?_, fun z => ?_⟩
  · rw [if_neg z] at hq; exact hq
  · rw [if_pos z] at hq; exact hq
theorem x_roveUp (hc : isC c) (h : rC M c C) (hw : wf C) {p : Nat} (hp : p < C 0 0) (hq : Q (some (.int (nI (rvu (C 0 0) p (C 7 p))))) M L) : Good (d + 1) nX2_roveUp [.ref c, .int (nI p)] M L Q := by
  obtain ⟨k0, k1, l1⟩ := isC_f c hc
  obtain ⟨⟨hP, hP8⟩, -, -, -, -, hj⟩ := hw
  have h7 := (hj p hp).2.1
  have hlt : C 7 p < 100 := by omega
  refine eX2_roveUp _ _ ?_
  unfold rvu at hq
  simp (disch := omega) only [w_N, w_iconst, w_lcst, w_iload, w_lload, w_aload, m_i_s, m_l_s, m_a_s, w_istore, w_lstore, w_astore, w_iinc, w_iadd, w_isub, w_imul, w_iand, w_ior, w_ixor, w_ishl, w_ishr, w_iushr, w_idiv, w_irem, w_ineg, w_ladd, w_lsub, w_lmul, w_ldiv, w_lrem, w_lcmp, w_i2l, w_l2i, w_i2b, w_i2s, w_dupi, w_dupr, w_popi, w_popr, w_dup2, w_goto, w_cut, w_switch, sw_nil, sw_cons, w_iald, w_bald, w_zald, w_aald, w_iast, w_bast, w_zast, w_ireturn, w_zr0, w_zr1, w_lreturn, w_areturn, w_vreturn, w_cpy, w_mmax, w_mmin, w_sald, w_slen, sc_nil, sc_i, sc_r, sc_l, tl_s, tl_n, ls1, ls2, lk1, hd0, Int.reduceToNat, Nat.reduceAdd, Nat.reduceLeDiff, Nat.reduceMul, true_and, and_true, w_icmp_eq, w_icmp_ne, w_icmp_lt, w_icmp_ge, w_icmp_gt, w_icmp_le, w_if_eq, w_if_ne, w_if_lt, w_if_ge, w_if_gt, w_if_le, tX2_roveUp_0, kX2_roveUp_0, tX2_roveUp_16, kX2_roveUp_16, tX2_roveUp_22, kX2_roveUp_22, tX2_roveUp_39, kX2_roveUp_39, tX2_roveUp_40, kX2_roveUp_40, w_g71, wc_X2_above, lg_0, lg_1, lg_2, k0, k1, l1]
  try simp only [cm_1, cm_1000000, cm_1000001, cm_1000002, cm_1000003, cm_1000010, cm_1000100, lm_1000001, lm_1000002]
  refine exj (by omega) ?_
  rw [h.l hp, lkC_n hlt]
  refine ⟨fun z => exj (by omega) ?_, fun z => ?_⟩
  · rw [if_neg z] at hq
    have hs : C 7 p < C 0 0 := by omega
    have ha := abv_lt (P := C 0 0) (s := C 7 p) hP
    rw [h.l hp, lkC_e z]
    refine callOk (Nat.lt_succ_self d) (x_above hc h hP8 (by omega) ?_)
    simp (disch := omega) only [w_N, w_iconst, w_lcst, w_iload, w_lload, w_aload, m_i_s, m_l_s, m_a_s, w_istore, w_lstore, w_astore, w_iinc, w_iadd, w_isub, w_imul, w_iand, w_ior, w_ixor, w_ishl, w_ishr, w_iushr, w_idiv, w_irem, w_ineg, w_ladd, w_lsub, w_lmul, w_ldiv, w_lrem, w_lcmp, w_i2l, w_l2i, w_i2b, w_i2s, w_dupi, w_dupr, w_popi, w_popr, w_dup2, w_goto, w_cut, w_switch, sw_nil, sw_cons, w_iald, w_bald, w_zald, w_aald, w_iast, w_bast, w_zast, w_ireturn, w_zr0, w_zr1, w_lreturn, w_areturn, w_vreturn, w_cpy, w_mmax, w_mmin, w_sald, w_slen, sc_nil, sc_i, sc_r, sc_l, tl_s, tl_n, ls1, ls2, lk1, hd0, Int.reduceToNat, Nat.reduceAdd, Nat.reduceLeDiff, Nat.reduceMul, true_and, and_true, w_icmp_eq, w_icmp_ne, w_icmp_lt, w_icmp_ge, w_icmp_gt, w_icmp_le, w_if_eq, w_if_ne, w_if_lt, w_if_ge, w_if_gt, w_if_le, tX2_roveUp_0, kX2_roveUp_0, tX2_roveUp_16, kX2_roveUp_16, tX2_roveUp_22, kX2_roveUp_22, tX2_roveUp_39, kX2_roveUp_39, tX2_roveUp_40, kX2_roveUp_40, w_g71, wc_X2_above, lg_0, lg_1, lg_2, k0, nI_eq]
    try simp only [cm_1, cm_1000000, cm_1000001, cm_1000002, cm_1000003, cm_1000010, cm_1000100, lm_1000001, lm_1000002]
    refine ⟨fun z => ?_, fun z => ?_⟩
    · rw [if_neg z] at hq; exact hq
    · rw [if_pos z] at hq
      rw [z]
      refine callOk (Nat.lt_succ_self d) (x_above hc h hP8 (by omega) ?_)
      simp (disch := omega) only [w_N, w_iconst, w_lcst, w_iload, w_lload, w_aload, m_i_s, m_l_s, m_a_s, w_istore, w_lstore, w_astore, w_iinc, w_iadd, w_isub, w_imul, w_iand, w_ior, w_ixor, w_ishl, w_ishr, w_iushr, w_idiv, w_irem, w_ineg, w_ladd, w_lsub, w_lmul, w_ldiv, w_lrem, w_lcmp, w_i2l, w_l2i, w_i2b, w_i2s, w_dupi, w_dupr, w_popi, w_popr, w_dup2, w_goto, w_cut, w_switch, sw_nil, sw_cons, w_iald, w_bald, w_zald, w_aald, w_iast, w_bast, w_zast, w_ireturn, w_zr0, w_zr1, w_lreturn, w_areturn, w_vreturn, w_cpy, w_mmax, w_mmin, w_sald, w_slen, sc_nil, sc_i, sc_r, sc_l, tl_s, tl_n, ls1, ls2, lk1, hd0, Int.reduceToNat, Nat.reduceAdd, Nat.reduceLeDiff, Nat.reduceMul, true_and, and_true, w_icmp_eq, w_icmp_ne, w_icmp_lt, w_icmp_ge, w_icmp_gt, w_icmp_le, w_if_eq, w_if_ne, w_if_lt, w_if_ge, w_if_gt, w_if_le, tX2_roveUp_0, kX2_roveUp_0, tX2_roveUp_16, kX2_roveUp_16, tX2_roveUp_22, kX2_roveUp_22, tX2_roveUp_39, kX2_roveUp_39, tX2_roveUp_40, kX2_roveUp_40, w_g71, wc_X2_above, lg_0, lg_1, lg_2]
      try simp only [cm_1, cm_1000000, cm_1000001, cm_1000002, cm_1000003, cm_1000010, cm_1000100, lm_1000001, lm_1000002]
      exact hq
  · rw [if_pos z] at hq
    have hs : p < C 0 0 := hp
    have ha := abv_lt (P := C 0 0) (s := p) hP
    refine callOk (Nat.lt_succ_self d) (x_above hc h hP8 (by omega) ?_)
    simp (disch := omega) only [w_N, w_iconst, w_lcst, w_iload, w_lload, w_aload, m_i_s, m_l_s, m_a_s, w_istore, w_lstore, w_astore, w_iinc, w_iadd, w_isub, w_imul, w_iand, w_ior, w_ixor, w_ishl, w_ishr, w_iushr, w_idiv, w_irem, w_ineg, w_ladd, w_lsub, w_lmul, w_ldiv, w_lrem, w_lcmp, w_i2l, w_l2i, w_i2b, w_i2s, w_dupi, w_dupr, w_popi, w_popr, w_dup2, w_goto, w_cut, w_switch, sw_nil, sw_cons, w_iald, w_bald, w_zald, w_aald, w_iast, w_bast, w_zast, w_ireturn, w_zr0, w_zr1, w_lreturn, w_areturn, w_vreturn, w_cpy, w_mmax, w_mmin, w_sald, w_slen, sc_nil, sc_i, sc_r, sc_l, tl_s, tl_n, ls1, ls2, lk1, hd0, Int.reduceToNat, Nat.reduceAdd, Nat.reduceLeDiff, Nat.reduceMul, true_and, and_true, w_icmp_eq, w_icmp_ne, w_icmp_lt, w_icmp_ge, w_icmp_gt, w_icmp_le, w_if_eq, w_if_ne, w_if_lt, w_if_ge, w_if_gt, w_if_le, tX2_roveUp_0, kX2_roveUp_0, tX2_roveUp_16, kX2_roveUp_16, tX2_roveUp_22, kX2_roveUp_22, tX2_roveUp_39, kX2_roveUp_39, tX2_roveUp_40, kX2_roveUp_40, w_g71, wc_X2_above, lg_0, lg_1, lg_2, k0, nI_eq]
    try simp only [cm_1, cm_1000000, cm_1000001, cm_1000002, cm_1000003, cm_1000010, cm_1000100, lm_1000001, lm_1000002]
    refine ⟨fun z => ?_, fun z => ?_⟩
    · rw [if_neg z] at hq; exact hq
    · rw [if_pos z] at hq
      rw [z]
      refine callOk (Nat.lt_succ_self d) (x_above hc h hP8 (by omega) ?_)
      simp (disch := omega) only [w_N, w_iconst, w_lcst, w_iload, w_lload, w_aload, m_i_s, m_l_s, m_a_s, w_istore, w_lstore, w_astore, w_iinc, w_iadd, w_isub, w_imul, w_iand, w_ior, w_ixor, w_ishl, w_ishr, w_iushr, w_idiv, w_irem, w_ineg, w_ladd, w_lsub, w_lmul, w_ldiv, w_lrem, w_lcmp, w_i2l, w_l2i, w_i2b, w_i2s, w_dupi, w_dupr, w_popi, w_popr, w_dup2, w_goto, w_cut, w_switch, sw_nil, sw_cons, w_iald, w_bald, w_zald, w_aald, w_iast, w_bast, w_zast, w_ireturn, w_zr0, w_zr1, w_lreturn, w_areturn, w_vreturn, w_cpy, w_mmax, w_mmin, w_sald, w_slen, sc_nil, sc_i, sc_r, sc_l, tl_s, tl_n, ls1, ls2, lk1, hd0, Int.reduceToNat, Nat.reduceAdd, Nat.reduceLeDiff, Nat.reduceMul, true_and, and_true, w_icmp_eq, w_icmp_ne, w_icmp_lt, w_icmp_ge, w_icmp_gt, w_icmp_le, w_if_eq, w_if_ne, w_if_lt, w_if_ge, w_if_gt, w_if_le, tX2_roveUp_0, kX2_roveUp_0, tX2_roveUp_16, kX2_roveUp_16, tX2_roveUp_22, kX2_roveUp_22, tX2_roveUp_39, kX2_roveUp_39, tX2_roveUp_40, kX2_roveUp_40, w_g71, wc_X2_above, lg_0, lg_1, lg_2]
      try simp only [cm_1, cm_1000000, cm_1000001, cm_1000002, cm_1000003, cm_1000010, cm_1000100, lm_1000001, lm_1000002]
      exact hq
theorem x_roveDown (hc : isC c) (h : rC M c C) (hw : wf C) {p : Nat} (hp : p < C 0 0) (hq : Q (some (.int (nI (rvd (C 0 0) p (C 7 p))))) M L) : Good (d + 1) nX2_roveDown [.ref c, .int (nI p)] M L Q := by
  obtain ⟨k0, k1, l1⟩ := isC_f c hc
  obtain ⟨⟨hP, hP8⟩, -, -, -, -, hj⟩ := hw
  have h7 := (hj p hp).2.1
  have hlt : C 7 p < 100 := by omega
  refine eX2_roveDown _ _ ?_
  unfold rvd at hq
  simp (disch := omega) only [w_N, w_iconst, w_lcst, w_iload, w_lload, w_aload, m_i_s, m_l_s, m_a_s, w_istore, w_lstore, w_astore, w_iinc, w_iadd, w_isub, w_imul, w_iand, w_ior, w_ixor, w_ishl, w_ishr, w_iushr, w_idiv, w_irem, w_ineg, w_ladd, w_lsub, w_lmul, w_ldiv, w_lrem, w_lcmp, w_i2l, w_l2i, w_i2b, w_i2s, w_dupi, w_dupr, w_popi, w_popr, w_dup2, w_goto, w_cut, w_switch, sw_nil, sw_cons, w_iald, w_bald, w_zald, w_aald, w_iast, w_bast, w_zast, w_ireturn, w_zr0, w_zr1, w_lreturn, w_areturn, w_vreturn, w_cpy, w_mmax, w_mmin, w_sald, w_slen, sc_nil, sc_i, sc_r, sc_l, tl_s, tl_n, ls1, ls2, lk1, hd0, Int.reduceToNat, Nat.reduceAdd, Nat.reduceLeDiff, Nat.reduceMul, true_and, and_true, w_icmp_eq, w_icmp_ne, w_icmp_lt, w_icmp_ge, w_icmp_gt, w_icmp_le, w_if_eq, w_if_ne, w_if_lt, w_if_ge, w_if_gt, w_if_le, tX2_roveDown_0, kX2_roveDown_0, tX2_roveDown_16, kX2_roveDown_16, tX2_roveDown_22, kX2_roveDown_22, tX2_roveDown_39, kX2_roveDown_39, tX2_roveDown_40, kX2_roveDown_40, w_g71, wc_X2_below, lg_0, lg_1, lg_2, k0, k1, l1]
  try simp only [cm_1, cm_1000000, cm_1000001, cm_1000002, cm_1000003, cm_1000010, cm_1000100, lm_1000001, lm_1000002]
  refine exj (by omega) ?_
  rw [h.l hp, lkC_n hlt]
  refine ⟨fun z => exj (by omega) ?_, fun z => ?_⟩
  · rw [if_neg z] at hq
    have hs : C 7 p < C 0 0 := by omega
    have ha := blw_lt (P := C 0 0) (s := C 7 p) hP hs
    rw [h.l hp, lkC_e z]
    refine callOk (Nat.lt_succ_self d) (x_below hc h ⟨by omega, hP8⟩ (by omega) ?_)
    simp (disch := omega) only [w_N, w_iconst, w_lcst, w_iload, w_lload, w_aload, m_i_s, m_l_s, m_a_s, w_istore, w_lstore, w_astore, w_iinc, w_iadd, w_isub, w_imul, w_iand, w_ior, w_ixor, w_ishl, w_ishr, w_iushr, w_idiv, w_irem, w_ineg, w_ladd, w_lsub, w_lmul, w_ldiv, w_lrem, w_lcmp, w_i2l, w_l2i, w_i2b, w_i2s, w_dupi, w_dupr, w_popi, w_popr, w_dup2, w_goto, w_cut, w_switch, sw_nil, sw_cons, w_iald, w_bald, w_zald, w_aald, w_iast, w_bast, w_zast, w_ireturn, w_zr0, w_zr1, w_lreturn, w_areturn, w_vreturn, w_cpy, w_mmax, w_mmin, w_sald, w_slen, sc_nil, sc_i, sc_r, sc_l, tl_s, tl_n, ls1, ls2, lk1, hd0, Int.reduceToNat, Nat.reduceAdd, Nat.reduceLeDiff, Nat.reduceMul, true_and, and_true, w_icmp_eq, w_icmp_ne, w_icmp_lt, w_icmp_ge, w_icmp_gt, w_icmp_le, w_if_eq, w_if_ne, w_if_lt, w_if_ge, w_if_gt, w_if_le, tX2_roveDown_0, kX2_roveDown_0, tX2_roveDown_16, kX2_roveDown_16, tX2_roveDown_22, kX2_roveDown_22, tX2_roveDown_39, kX2_roveDown_39, tX2_roveDown_40, kX2_roveDown_40, w_g71, wc_X2_below, lg_0, lg_1, lg_2, k0, nI_eq]
    try simp only [cm_1, cm_1000000, cm_1000001, cm_1000002, cm_1000003, cm_1000010, cm_1000100, lm_1000001, lm_1000002]
    refine ⟨fun z => ?_, fun z => ?_⟩
    · rw [if_neg z] at hq; exact hq
    · rw [if_pos z] at hq
      rw [z]
      refine callOk (Nat.lt_succ_self d) (x_below hc h ⟨by omega, hP8⟩ (by omega) ?_)
      simp (disch := omega) only [w_N, w_iconst, w_lcst, w_iload, w_lload, w_aload, m_i_s, m_l_s, m_a_s, w_istore, w_lstore, w_astore, w_iinc, w_iadd, w_isub, w_imul, w_iand, w_ior, w_ixor, w_ishl, w_ishr, w_iushr, w_idiv, w_irem, w_ineg, w_ladd, w_lsub, w_lmul, w_ldiv, w_lrem, w_lcmp, w_i2l, w_l2i, w_i2b, w_i2s, w_dupi, w_dupr, w_popi, w_popr, w_dup2, w_goto, w_cut, w_switch, sw_nil, sw_cons, w_iald, w_bald, w_zald, w_aald, w_iast, w_bast, w_zast, w_ireturn, w_zr0, w_zr1, w_lreturn, w_areturn, w_vreturn, w_cpy, w_mmax, w_mmin, w_sald, w_slen, sc_nil, sc_i, sc_r, sc_l, tl_s, tl_n, ls1, ls2, lk1, hd0, Int.reduceToNat, Nat.reduceAdd, Nat.reduceLeDiff, Nat.reduceMul, true_and, and_true, w_icmp_eq, w_icmp_ne, w_icmp_lt, w_icmp_ge, w_icmp_gt, w_icmp_le, w_if_eq, w_if_ne, w_if_lt, w_if_ge, w_if_gt, w_if_le, tX2_roveDown_0, kX2_roveDown_0, tX2_roveDown_16, kX2_roveDown_16, tX2_roveDown_22, kX2_roveDown_22, tX2_roveDown_39, kX2_roveDown_39, tX2_roveDown_40, kX2_roveDown_40, w_g71, wc_X2_below, lg_0, lg_1, lg_2]
      try simp only [cm_1, cm_1000000, cm_1000001, cm_1000002, cm_1000003, cm_1000010, cm_1000100, lm_1000001, lm_1000002]
      exact hq
  · rw [if_pos z] at hq
    have hs : p < C 0 0 := hp
    have ha := blw_lt (P := C 0 0) (s := p) hP hs
    refine callOk (Nat.lt_succ_self d) (x_below hc h ⟨by omega, hP8⟩ (by omega) ?_)
    simp (disch := omega) only [w_N, w_iconst, w_lcst, w_iload, w_lload, w_aload, m_i_s, m_l_s, m_a_s, w_istore, w_lstore, w_astore, w_iinc, w_iadd, w_isub, w_imul, w_iand, w_ior, w_ixor, w_ishl, w_ishr, w_iushr, w_idiv, w_irem, w_ineg, w_ladd, w_lsub, w_lmul, w_ldiv, w_lrem, w_lcmp, w_i2l, w_l2i, w_i2b, w_i2s, w_dupi, w_dupr, w_popi, w_popr, w_dup2, w_goto, w_cut, w_switch, sw_nil, sw_cons, w_iald, w_bald, w_zald, w_aald, w_iast, w_bast, w_zast, w_ireturn, w_zr0, w_zr1, w_lreturn, w_areturn, w_vreturn, w_cpy, w_mmax, w_mmin, w_sald, w_slen, sc_nil, sc_i, sc_r, sc_l, tl_s, tl_n, ls1, ls2, lk1, hd0, Int.reduceToNat, Nat.reduceAdd, Nat.reduceLeDiff, Nat.reduceMul, true_and, and_true, w_icmp_eq, w_icmp_ne, w_icmp_lt, w_icmp_ge, w_icmp_gt, w_icmp_le, w_if_eq, w_if_ne, w_if_lt, w_if_ge, w_if_gt, w_if_le, tX2_roveDown_0, kX2_roveDown_0, tX2_roveDown_16, kX2_roveDown_16, tX2_roveDown_22, kX2_roveDown_22, tX2_roveDown_39, kX2_roveDown_39, tX2_roveDown_40, kX2_roveDown_40, w_g71, wc_X2_below, lg_0, lg_1, lg_2, k0, nI_eq]
    try simp only [cm_1, cm_1000000, cm_1000001, cm_1000002, cm_1000003, cm_1000010, cm_1000100, lm_1000001, lm_1000002]
    refine ⟨fun z => ?_, fun z => ?_⟩
    · rw [if_neg z] at hq; exact hq
    · rw [if_pos z] at hq
      rw [z]
      refine callOk (Nat.lt_succ_self d) (x_below hc h ⟨by omega, hP8⟩ (by omega) ?_)
      simp (disch := omega) only [w_N, w_iconst, w_lcst, w_iload, w_lload, w_aload, m_i_s, m_l_s, m_a_s, w_istore, w_lstore, w_astore, w_iinc, w_iadd, w_isub, w_imul, w_iand, w_ior, w_ixor, w_ishl, w_ishr, w_iushr, w_idiv, w_irem, w_ineg, w_ladd, w_lsub, w_lmul, w_ldiv, w_lrem, w_lcmp, w_i2l, w_l2i, w_i2b, w_i2s, w_dupi, w_dupr, w_popi, w_popr, w_dup2, w_goto, w_cut, w_switch, sw_nil, sw_cons, w_iald, w_bald, w_zald, w_aald, w_iast, w_bast, w_zast, w_ireturn, w_zr0, w_zr1, w_lreturn, w_areturn, w_vreturn, w_cpy, w_mmax, w_mmin, w_sald, w_slen, sc_nil, sc_i, sc_r, sc_l, tl_s, tl_n, ls1, ls2, lk1, hd0, Int.reduceToNat, Nat.reduceAdd, Nat.reduceLeDiff, Nat.reduceMul, true_and, and_true, w_icmp_eq, w_icmp_ne, w_icmp_lt, w_icmp_ge, w_icmp_gt, w_icmp_le, w_if_eq, w_if_ne, w_if_lt, w_if_ge, w_if_gt, w_if_le, tX2_roveDown_0, kX2_roveDown_0, tX2_roveDown_16, kX2_roveDown_16, tX2_roveDown_22, kX2_roveDown_22, tX2_roveDown_39, kX2_roveDown_39, tX2_roveDown_40, kX2_roveDown_40, w_g71, wc_X2_below, lg_0, lg_1, lg_2]
      try simp only [cm_1, cm_1000000, cm_1000001, cm_1000002, cm_1000003, cm_1000010, cm_1000100, lm_1000001, lm_1000002]
      exact hq
theorem x_nextNotDead (hc : isC c) (h : rC M c C) (hw : wf C) {p : Nat} (hp : p < C 0 0) (hq : Q (some (.int (lkC (nnd C p)))) M L) : Good (d + 1) nX2_nextNotDead [.ref c, .int (nI p)] M L Q := by
  obtain ⟨k0, k1, l1⟩ := isC_f c hc
  obtain ⟨⟨hP, hP8⟩, -, -, -, -, hj⟩ := hw
  have e0 := h.1 0 (by decide)
  refine eX2_nextNotDead _ _ ?_
  simp (disch := omega) only [w_N, w_iconst, w_lcst, w_iload, w_lload, w_aload, m_i_s, m_l_s, m_a_s, w_istore, w_lstore, w_astore, w_iinc, w_iadd, w_isub, w_imul, w_iand, w_ior, w_ixor, w_ishl, w_ishr, w_iushr, w_idiv, w_irem, w_ineg, w_ladd, w_lsub, w_lmul, w_ldiv, w_lrem, w_lcmp, w_i2l, w_l2i, w_i2b, w_i2s, w_dupi, w_dupr, w_popi, w_popr, w_dup2, w_goto, w_cut, w_switch, sw_nil, sw_cons, w_iald, w_bald, w_zald, w_aald, w_iast, w_bast, w_zast, w_ireturn, w_zr0, w_zr1, w_lreturn, w_areturn, w_vreturn, w_cpy, w_mmax, w_mmin, w_sald, w_slen, sc_nil, sc_i, sc_r, sc_l, tl_s, tl_n, ls1, ls2, lk1, hd0, Int.reduceToNat, Nat.reduceAdd, Nat.reduceLeDiff, Nat.reduceMul, true_and, and_true, w_icmp_eq, w_icmp_ne, w_icmp_lt, w_icmp_ge, w_icmp_gt, w_icmp_le, w_if_eq, w_if_ne, w_if_lt, w_if_ge, w_if_gt, w_if_le, tX2_nextNotDead_0, kX2_nextNotDead_0, tX2_nextNotDead_4, kX2_nextNotDead_4, tX2_nextNotDead_30, kX2_nextNotDead_30, tX2_nextNotDead_36, kX2_nextNotDead_36, hX2_nextNotDead_4, ci_1, w_g64, wc_X2_above, w_g73, ci_2, lg_0, lg_1, lg_2, lg_3, k0, k1, l1]
  try simp only [cm_1, cm_1000000, cm_1000001, cm_1000002, cm_1000003, cm_1000010, cm_1000100, lm_1000001, lm_1000002]
  have loop : ∀ m k, k + m = C 0 0 → 1 ≤ k → (Q (some (.int (lkC (nnF C p m k)))) M L) → Runs nX2_nextNotDead (d + 1) Q 4 [some (.ref c), some (.int (nI p)), some (.int (nI ((p + (k - 1)) % C 0 0))), some (.int (nI k))] [] M L := by
    intro m
    induction m with
    | zero =>
      intro k hk h1 hq
      refine wpH_runs oX2_nextNotDead 60 4 oX2_nextNotDead_4 ?_
      simp (disch := omega) only [w_N, w_iconst, w_lcst, w_iload, w_lload, w_aload, m_i_s, m_l_s, m_a_s, w_istore, w_lstore, w_astore, w_iinc, w_iadd, w_isub, w_imul, w_iand, w_ior, w_ixor, w_ishl, w_ishr, w_iushr, w_idiv, w_irem, w_ineg, w_ladd, w_lsub, w_lmul, w_ldiv, w_lrem, w_lcmp, w_i2l, w_l2i, w_i2b, w_i2s, w_dupi, w_dupr, w_popi, w_popr, w_dup2, w_goto, w_cut, w_switch, sw_nil, sw_cons, w_iald, w_bald, w_zald, w_aald, w_iast, w_bast, w_zast, w_ireturn, w_zr0, w_zr1, w_lreturn, w_areturn, w_vreturn, w_cpy, w_mmax, w_mmin, w_sald, w_slen, sc_nil, sc_i, sc_r, sc_l, tl_s, tl_n, ls1, ls2, lk1, hd0, Int.reduceToNat, Nat.reduceAdd, Nat.reduceLeDiff, Nat.reduceMul, true_and, and_true, w_icmp_eq, w_icmp_ne, w_icmp_lt, w_icmp_ge, w_icmp_gt, w_icmp_le, w_if_eq, w_if_ne, w_if_lt, w_if_ge, w_if_gt, w_if_le, tX2_nextNotDead_0, kX2_nextNotDead_0, tX2_nextNotDead_4, kX2_nextNotDead_4, tX2_nextNotDead_30, kX2_nextNotDead_30, tX2_nextNotDead_36, kX2_nextNotDead_36, hX2_nextNotDead_4, ci_1, w_g64, wc_X2_above, w_g73, ci_2, lg_0, lg_1, lg_2, lg_3, k0, e0, nI_leI]
      try simp only [cm_1, cm_1000000, cm_1000001, cm_1000002, cm_1000003, cm_1000010, cm_1000100, lm_1000001, lm_1000002]
      exact ⟨fun _ => hq, fun z => absurd (by omega) z⟩
    | succ m ih =>
      intro k hk h1 hq
      refine wpH_runs oX2_nextNotDead 60 4 oX2_nextNotDead_4 ?_
      have hs : (p + (k - 1)) % C 0 0 < C 0 0 := Nat.mod_lt _ (by omega)
      have he : abv (C 0 0) ((p + (k - 1)) % C 0 0) = (p + k) % C 0 0 := by
        unfold abv
        have e1 : (p + k) % C 0 0 = ((p + (k - 1)) % C 0 0 + 1) % C 0 0 := by rw [Nat.mod_add_mod]; congr 1; omega
        rw [e1]
        generalize (p + (k - 1)) % C 0 0 = r at hs
        split
        · exact (Nat.mod_eq_of_lt (by omega)).symm
        · rw [show r + 1 = C 0 0 by omega, Nat.mod_self]
      simp (disch := omega) only [w_N, w_iconst, w_lcst, w_iload, w_lload, w_aload, m_i_s, m_l_s, m_a_s, w_istore, w_lstore, w_astore, w_iinc, w_iadd, w_isub, w_imul, w_iand, w_ior, w_ixor, w_ishl, w_ishr, w_iushr, w_idiv, w_irem, w_ineg, w_ladd, w_lsub, w_lmul, w_ldiv, w_lrem, w_lcmp, w_i2l, w_l2i, w_i2b, w_i2s, w_dupi, w_dupr, w_popi, w_popr, w_dup2, w_goto, w_cut, w_switch, sw_nil, sw_cons, w_iald, w_bald, w_zald, w_aald, w_iast, w_bast, w_zast, w_ireturn, w_zr0, w_zr1, w_lreturn, w_areturn, w_vreturn, w_cpy, w_mmax, w_mmin, w_sald, w_slen, sc_nil, sc_i, sc_r, sc_l, tl_s, tl_n, ls1, ls2, lk1, hd0, Int.reduceToNat, Nat.reduceAdd, Nat.reduceLeDiff, Nat.reduceMul, true_and, and_true, w_icmp_eq, w_icmp_ne, w_icmp_lt, w_icmp_ge, w_icmp_gt, w_icmp_le, w_if_eq, w_if_ne, w_if_lt, w_if_ge, w_if_gt, w_if_le, tX2_nextNotDead_0, kX2_nextNotDead_0, tX2_nextNotDead_4, kX2_nextNotDead_4, tX2_nextNotDead_30, kX2_nextNotDead_30, tX2_nextNotDead_36, kX2_nextNotDead_36, hX2_nextNotDead_4, ci_1, w_g64, wc_X2_above, w_g73, ci_2, lg_0, lg_1, lg_2, lg_3, k0, e0, nI_leI]
      try simp only [cm_1, cm_1000000, cm_1000001, cm_1000002, cm_1000003, cm_1000010, cm_1000100, lm_1000001, lm_1000002]
      refine ⟨fun z => absurd z (by omega), fun _ => callOk (Nat.lt_succ_self d) (x_above hc h hP8 (by omega) ?_)⟩
      rw [he]
      have hs' : (p + k) % C 0 0 < C 0 0 := Nat.mod_lt _ (by omega)
      simp (disch := omega) only [w_N, w_iconst, w_lcst, w_iload, w_lload, w_aload, m_i_s, m_l_s, m_a_s, w_istore, w_lstore, w_astore, w_iinc, w_iadd, w_isub, w_imul, w_iand, w_ior, w_ixor, w_ishl, w_ishr, w_iushr, w_idiv, w_irem, w_ineg, w_ladd, w_lsub, w_lmul, w_ldiv, w_lrem, w_lcmp, w_i2l, w_l2i, w_i2b, w_i2s, w_dupi, w_dupr, w_popi, w_popr, w_dup2, w_goto, w_cut, w_switch, sw_nil, sw_cons, w_iald, w_bald, w_zald, w_aald, w_iast, w_bast, w_zast, w_ireturn, w_zr0, w_zr1, w_lreturn, w_areturn, w_vreturn, w_cpy, w_mmax, w_mmin, w_sald, w_slen, sc_nil, sc_i, sc_r, sc_l, tl_s, tl_n, ls1, ls2, lk1, hd0, Int.reduceToNat, Nat.reduceAdd, Nat.reduceLeDiff, Nat.reduceMul, true_and, and_true, w_icmp_eq, w_icmp_ne, w_icmp_lt, w_icmp_ge, w_icmp_gt, w_icmp_le, w_if_eq, w_if_ne, w_if_lt, w_if_ge, w_if_gt, w_if_le, tX2_nextNotDead_0, kX2_nextNotDead_0, tX2_nextNotDead_4, kX2_nextNotDead_4, tX2_nextNotDead_30, kX2_nextNotDead_30, tX2_nextNotDead_36, kX2_nextNotDead_36, hX2_nextNotDead_4, ci_1, w_g64, wc_X2_above, w_g73, ci_2, lg_0, lg_1, lg_2, lg_3, k0, k1, l1]
      try simp only [cm_1, cm_1000000, cm_1000001, cm_1000002, cm_1000003, cm_1000010, cm_1000100, lm_1000001, lm_1000002]
      refine exj (by omega) ?_
      have h9 := (hj _ hs').2.2.2.1
      rw [h.h hs', nI_add]
      simp (disch := omega) only [nI_eq]
      unfold nnF at hq
      refine ⟨fun z => ?_, fun z => ?_⟩
      · rw [if_pos z] at hq
        exact ih (k + 1) (by omega) (by omega) hq
      · rw [if_neg z, lkC_e (by omega)] at hq
        exact hq
  have := loop (C 0 0 - 1) 1 (by omega) (Nat.le_refl _) hq
  rw [show (p + (1 - 1)) % C 0 0 = p from Nat.mod_eq_of_lt hp] at this
  exact this
theorem x_nextLook (hc : isC c) (h : rC M c C) (hw : wf C) (h3 : C 3 0 < 100000) {p : Nat} (hp : p < C 0 0) (hq : Q (some (.int (lkC (nl C p)))) M L) : Good (d + 2) nX2_nextLook [.ref c, .int (nI p)] M L Q := by
  obtain ⟨k0, k1, l1⟩ := isC_f c hc
  obtain ⟨⟨hP, hP8⟩, -, -, -, h5, hj⟩ := id hw
  have h9 := (hj p hp).2.2.2.1
  have h6 := (hj p hp).1
  refine eX2_nextLook _ _ ?_
  simp (disch := omega) only [w_N, w_iconst, w_lcst, w_iload, w_lload, w_aload, m_i_s, m_l_s, m_a_s, w_istore, w_lstore, w_astore, w_iinc, w_iadd, w_isub, w_imul, w_iand, w_ior, w_ixor, w_ishl, w_ishr, w_iushr, w_idiv, w_irem, w_ineg, w_ladd, w_lsub, w_lmul, w_ldiv, w_lrem, w_lcmp, w_i2l, w_l2i, w_i2b, w_i2s, w_dupi, w_dupr, w_popi, w_popr, w_dup2, w_goto, w_cut, w_switch, sw_nil, sw_cons, w_iald, w_bald, w_zald, w_aald, w_iast, w_bast, w_zast, w_ireturn, w_zr0, w_zr1, w_lreturn, w_areturn, w_vreturn, w_cpy, w_mmax, w_mmin, w_sald, w_slen, sc_nil, sc_i, sc_r, sc_l, tl_s, tl_n, ls1, ls2, lk1, hd0, Int.reduceToNat, Nat.reduceAdd, Nat.reduceLeDiff, Nat.reduceMul, true_and, and_true, w_icmp_eq, w_icmp_ne, w_icmp_lt, w_icmp_ge, w_icmp_gt, w_icmp_le, w_if_eq, w_if_ne, w_if_lt, w_if_ge, w_if_gt, w_if_le, tX2_nextLook_0, kX2_nextLook_0, tX2_nextLook_18, kX2_nextLook_18, tX2_nextLook_21, kX2_nextLook_21, tX2_nextLook_56, kX2_nextLook_56, tX2_nextLook_62, kX2_nextLook_62, tX2_nextLook_69, kX2_nextLook_69, tX2_nextLook_75, kX2_nextLook_75, tX2_nextLook_81, kX2_nextLook_81, tX2_nextLook_98, kX2_nextLook_98, tX2_nextLook_100, kX2_nextLook_100, w_g73, ci_2, wc_X2_isAsleep, w_g70, ci_1, ci_3, ci_4, wc_X2_roveUp, w_g71, wc_X2_roveDown, wc_X2_nextNotDead, w_g67, lg_0, lg_1, k0, k1, l1]
  try simp only [cm_1, cm_1000000, cm_1000001, cm_1000002, cm_1000003, cm_1000010, cm_1000100, lm_1000001, lm_1000002]
  refine exj (by omega) ?_
  rw [h.h hp]
  unfold nl at hq
  simp (disch := omega) only [nI_eq]
  have hm2 : C 3 0 % 2 < 2 := Nat.mod_lt _ (by decide)
  refine ⟨fun z => ?_, fun z => ?_⟩
  · rw [if_pos z] at hq; exact hq
  · rw [if_neg z] at hq
    refine callOk (show d < d + 2 by omega) (x_isAsleep hc h h5 (by omega) ?_)
    by_cases z2 : C 5 0 / 2 ^ p % 2 = 1
    · rw [if_pos z2] at hq ⊢
      simp (disch := omega) only [w_N, w_iconst, w_lcst, w_iload, w_lload, w_aload, m_i_s, m_l_s, m_a_s, w_istore, w_lstore, w_astore, w_iinc, w_iadd, w_isub, w_imul, w_iand, w_ior, w_ixor, w_ishl, w_ishr, w_iushr, w_idiv, w_irem, w_ineg, w_ladd, w_lsub, w_lmul, w_ldiv, w_lrem, w_lcmp, w_i2l, w_l2i, w_i2b, w_i2s, w_dupi, w_dupr, w_popi, w_popr, w_dup2, w_goto, w_cut, w_switch, sw_nil, sw_cons, w_iald, w_bald, w_zald, w_aald, w_iast, w_bast, w_zast, w_ireturn, w_zr0, w_zr1, w_lreturn, w_areturn, w_vreturn, w_cpy, w_mmax, w_mmin, w_sald, w_slen, sc_nil, sc_i, sc_r, sc_l, tl_s, tl_n, ls1, ls2, lk1, hd0, Int.reduceToNat, Nat.reduceAdd, Nat.reduceLeDiff, Nat.reduceMul, true_and, and_true, w_icmp_eq, w_icmp_ne, w_icmp_lt, w_icmp_ge, w_icmp_gt, w_icmp_le, w_if_eq, w_if_ne, w_if_lt, w_if_ge, w_if_gt, w_if_le, tX2_nextLook_0, kX2_nextLook_0, tX2_nextLook_18, kX2_nextLook_18, tX2_nextLook_21, kX2_nextLook_21, tX2_nextLook_56, kX2_nextLook_56, tX2_nextLook_62, kX2_nextLook_62, tX2_nextLook_69, kX2_nextLook_69, tX2_nextLook_75, kX2_nextLook_75, tX2_nextLook_81, kX2_nextLook_81, tX2_nextLook_98, kX2_nextLook_98, tX2_nextLook_100, kX2_nextLook_100, w_g73, ci_2, wc_X2_isAsleep, w_g70, ci_1, ci_3, ci_4, wc_X2_roveUp, w_g71, wc_X2_roveDown, wc_X2_nextNotDead, w_g67, lg_0, lg_1, ← zn0, nI_eq]
      try simp only [cm_1, cm_1000000, cm_1000001, cm_1000002, cm_1000003, cm_1000010, cm_1000100, lm_1000001, lm_1000002]
      exact ⟨fun q => absurd q (by decide), fun _ => hq⟩
    · rw [if_neg z2] at hq ⊢
      have e3 := h.1 3 (by decide)
      have hrem : nI (C 3 0) - nI (C 3 0) / nI 2 * nI 2 = nI (C 3 0 % 2) := pk_rem (by omega) (by decide) (by decide)
      simp (disch := omega) only [w_N, w_iconst, w_lcst, w_iload, w_lload, w_aload, m_i_s, m_l_s, m_a_s, w_istore, w_lstore, w_astore, w_iinc, w_iadd, w_isub, w_imul, w_iand, w_ior, w_ixor, w_ishl, w_ishr, w_iushr, w_idiv, w_irem, w_ineg, w_ladd, w_lsub, w_lmul, w_ldiv, w_lrem, w_lcmp, w_i2l, w_l2i, w_i2b, w_i2s, w_dupi, w_dupr, w_popi, w_popr, w_dup2, w_goto, w_cut, w_switch, sw_nil, sw_cons, w_iald, w_bald, w_zald, w_aald, w_iast, w_bast, w_zast, w_ireturn, w_zr0, w_zr1, w_lreturn, w_areturn, w_vreturn, w_cpy, w_mmax, w_mmin, w_sald, w_slen, sc_nil, sc_i, sc_r, sc_l, tl_s, tl_n, ls1, ls2, lk1, hd0, Int.reduceToNat, Nat.reduceAdd, Nat.reduceLeDiff, Nat.reduceMul, true_and, and_true, w_icmp_eq, w_icmp_ne, w_icmp_lt, w_icmp_ge, w_icmp_gt, w_icmp_le, w_if_eq, w_if_ne, w_if_lt, w_if_ge, w_if_gt, w_if_le, tX2_nextLook_0, kX2_nextLook_0, tX2_nextLook_18, kX2_nextLook_18, tX2_nextLook_21, kX2_nextLook_21, tX2_nextLook_56, kX2_nextLook_56, tX2_nextLook_62, kX2_nextLook_62, tX2_nextLook_69, kX2_nextLook_69, tX2_nextLook_75, kX2_nextLook_75, tX2_nextLook_81, kX2_nextLook_81, tX2_nextLook_98, kX2_nextLook_98, tX2_nextLook_100, kX2_nextLook_100, w_g73, ci_2, wc_X2_isAsleep, w_g70, ci_1, ci_3, ci_4, wc_X2_roveUp, w_g71, wc_X2_roveDown, wc_X2_nextNotDead, w_g67, lg_0, lg_1, k0, k1, l1, e3, ← zn0, nI_eq, hrem]
      try simp only [cm_1, cm_1000000, cm_1000001, cm_1000002, cm_1000003, cm_1000010, cm_1000100, lm_1000001, lm_1000002]
      refine ⟨fun _ => exj (by omega) ?_, fun q => absurd trivial q⟩
      rw [h.k hp]
      simp (disch := omega) only [nI_eq]
      have n20 : ¬ (2 : Nat) = 0 := by decide
      refine ⟨fun q => ?_, fun q1 => ⟨fun q => ?_, fun q2 => ⟨fun q => ?_, fun q3 => ⟨fun q => ?_, fun q4 => ?_⟩⟩⟩⟩
      · rw [if_pos q] at hq
        refine callOk (show d + 1 < d + 2 by omega) (x_roveUp hc h hw hp ?_)
        simp (disch := omega) only [w_N, w_iconst, w_lcst, w_iload, w_lload, w_aload, m_i_s, m_l_s, m_a_s, w_istore, w_lstore, w_astore, w_iinc, w_iadd, w_isub, w_imul, w_iand, w_ior, w_ixor, w_ishl, w_ishr, w_iushr, w_idiv, w_irem, w_ineg, w_ladd, w_lsub, w_lmul, w_ldiv, w_lrem, w_lcmp, w_i2l, w_l2i, w_i2b, w_i2s, w_dupi, w_dupr, w_popi, w_popr, w_dup2, w_goto, w_cut, w_switch, sw_nil, sw_cons, w_iald, w_bald, w_zald, w_aald, w_iast, w_bast, w_zast, w_ireturn, w_zr0, w_zr1, w_lreturn, w_areturn, w_vreturn, w_cpy, w_mmax, w_mmin, w_sald, w_slen, sc_nil, sc_i, sc_r, sc_l, tl_s, tl_n, ls1, ls2, lk1, hd0, Int.reduceToNat, Nat.reduceAdd, Nat.reduceLeDiff, Nat.reduceMul, true_and, and_true, w_icmp_eq, w_icmp_ne, w_icmp_lt, w_icmp_ge, w_icmp_gt, w_icmp_le, w_if_eq, w_if_ne, w_if_lt, w_if_ge, w_if_gt, w_if_le, tX2_nextLook_0, kX2_nextLook_0, tX2_nextLook_18, kX2_nextLook_18, tX2_nextLook_21, kX2_nextLook_21, tX2_nextLook_56, kX2_nextLook_56, tX2_nextLook_62, kX2_nextLook_62, tX2_nextLook_69, kX2_nextLook_69, tX2_nextLook_75, kX2_nextLook_75, tX2_nextLook_81, kX2_nextLook_81, tX2_nextLook_98, kX2_nextLook_98, tX2_nextLook_100, kX2_nextLook_100, w_g73, ci_2, wc_X2_isAsleep, w_g70, ci_1, ci_3, ci_4, wc_X2_roveUp, w_g71, wc_X2_roveDown, wc_X2_nextNotDead, w_g67, lg_0, lg_1]
        try simp only [cm_1, cm_1000000, cm_1000001, cm_1000002, cm_1000003, cm_1000010, cm_1000100, lm_1000001, lm_1000002]
        rw [lkC_e (by have := rvu_ok (l := C 7 p) hP hp; omega)] at hq
        exact hq
      · rw [if_neg q1, if_pos q] at hq
        refine exj (by omega) ?_
        rw [h.l hp]
        exact hq
      · rw [if_neg q1, if_neg q2, if_pos q] at hq
        refine callOk (show d + 1 < d + 2 by omega) (x_roveDown hc h hw hp ?_)
        simp (disch := omega) only [w_N, w_iconst, w_lcst, w_iload, w_lload, w_aload, m_i_s, m_l_s, m_a_s, w_istore, w_lstore, w_astore, w_iinc, w_iadd, w_isub, w_imul, w_iand, w_ior, w_ixor, w_ishl, w_ishr, w_iushr, w_idiv, w_irem, w_ineg, w_ladd, w_lsub, w_lmul, w_ldiv, w_lrem, w_lcmp, w_i2l, w_l2i, w_i2b, w_i2s, w_dupi, w_dupr, w_popi, w_popr, w_dup2, w_goto, w_cut, w_switch, sw_nil, sw_cons, w_iald, w_bald, w_zald, w_aald, w_iast, w_bast, w_zast, w_ireturn, w_zr0, w_zr1, w_lreturn, w_areturn, w_vreturn, w_cpy, w_mmax, w_mmin, w_sald, w_slen, sc_nil, sc_i, sc_r, sc_l, tl_s, tl_n, ls1, ls2, lk1, hd0, Int.reduceToNat, Nat.reduceAdd, Nat.reduceLeDiff, Nat.reduceMul, true_and, and_true, w_icmp_eq, w_icmp_ne, w_icmp_lt, w_icmp_ge, w_icmp_gt, w_icmp_le, w_if_eq, w_if_ne, w_if_lt, w_if_ge, w_if_gt, w_if_le, tX2_nextLook_0, kX2_nextLook_0, tX2_nextLook_18, kX2_nextLook_18, tX2_nextLook_21, kX2_nextLook_21, tX2_nextLook_56, kX2_nextLook_56, tX2_nextLook_62, kX2_nextLook_62, tX2_nextLook_69, kX2_nextLook_69, tX2_nextLook_75, kX2_nextLook_75, tX2_nextLook_81, kX2_nextLook_81, tX2_nextLook_98, kX2_nextLook_98, tX2_nextLook_100, kX2_nextLook_100, w_g73, ci_2, wc_X2_isAsleep, w_g70, ci_1, ci_3, ci_4, wc_X2_roveUp, w_g71, wc_X2_roveDown, wc_X2_nextNotDead, w_g67, lg_0, lg_1]
        try simp only [cm_1, cm_1000000, cm_1000001, cm_1000002, cm_1000003, cm_1000010, cm_1000100, lm_1000001, lm_1000002]
        rw [lkC_e (by have := rvd_ok (l := C 7 p) hP hp (by have := (hj p hp).2.1; omega); omega)] at hq
        exact hq
      · rw [if_neg q1, if_neg q2, if_neg q3, if_pos q] at hq
        refine callOk (show d + 1 < d + 2 by omega) (x_nextNotDead hc h hw hp ?_)
        simp (disch := omega) only [w_N, w_iconst, w_lcst, w_iload, w_lload, w_aload, m_i_s, m_l_s, m_a_s, w_istore, w_lstore, w_astore, w_iinc, w_iadd, w_isub, w_imul, w_iand, w_ior, w_ixor, w_ishl, w_ishr, w_iushr, w_idiv, w_irem, w_ineg, w_ladd, w_lsub, w_lmul, w_ldiv, w_lrem, w_lcmp, w_i2l, w_l2i, w_i2b, w_i2s, w_dupi, w_dupr, w_popi, w_popr, w_dup2, w_goto, w_cut, w_switch, sw_nil, sw_cons, w_iald, w_bald, w_zald, w_aald, w_iast, w_bast, w_zast, w_ireturn, w_zr0, w_zr1, w_lreturn, w_areturn, w_vreturn, w_cpy, w_mmax, w_mmin, w_sald, w_slen, sc_nil, sc_i, sc_r, sc_l, tl_s, tl_n, ls1, ls2, lk1, hd0, Int.reduceToNat, Nat.reduceAdd, Nat.reduceLeDiff, Nat.reduceMul, true_and, and_true, w_icmp_eq, w_icmp_ne, w_icmp_lt, w_icmp_ge, w_icmp_gt, w_icmp_le, w_if_eq, w_if_ne, w_if_lt, w_if_ge, w_if_gt, w_if_le, tX2_nextLook_0, kX2_nextLook_0, tX2_nextLook_18, kX2_nextLook_18, tX2_nextLook_21, kX2_nextLook_21, tX2_nextLook_56, kX2_nextLook_56, tX2_nextLook_62, kX2_nextLook_62, tX2_nextLook_69, kX2_nextLook_69, tX2_nextLook_75, kX2_nextLook_75, tX2_nextLook_81, kX2_nextLook_81, tX2_nextLook_98, kX2_nextLook_98, tX2_nextLook_100, kX2_nextLook_100, w_g73, ci_2, wc_X2_isAsleep, w_g70, ci_1, ci_3, ci_4, wc_X2_roveUp, w_g71, wc_X2_roveDown, wc_X2_nextNotDead, w_g67, lg_0, lg_1]
        try simp only [cm_1, cm_1000000, cm_1000001, cm_1000002, cm_1000003, cm_1000010, cm_1000100, lm_1000001, lm_1000002]
        exact hq
      · rw [if_neg q1, if_neg q2, if_neg q3, if_neg q4] at hq
        refine ⟨n20, fun q => ?_, fun q => ?_⟩
        · rw [if_neg q] at hq; exact hq
        · rw [if_pos q] at hq
          refine callOk (show d + 1 < d + 2 by omega) (x_nextNotDead hc h hw hp ?_)
          simp (disch := omega) only [w_N, w_iconst, w_lcst, w_iload, w_lload, w_aload, m_i_s, m_l_s, m_a_s, w_istore, w_lstore, w_astore, w_iinc, w_iadd, w_isub, w_imul, w_iand, w_ior, w_ixor, w_ishl, w_ishr, w_iushr, w_idiv, w_irem, w_ineg, w_ladd, w_lsub, w_lmul, w_ldiv, w_lrem, w_lcmp, w_i2l, w_l2i, w_i2b, w_i2s, w_dupi, w_dupr, w_popi, w_popr, w_dup2, w_goto, w_cut, w_switch, sw_nil, sw_cons, w_iald, w_bald, w_zald, w_aald, w_iast, w_bast, w_zast, w_ireturn, w_zr0, w_zr1, w_lreturn, w_areturn, w_vreturn, w_cpy, w_mmax, w_mmin, w_sald, w_slen, sc_nil, sc_i, sc_r, sc_l, tl_s, tl_n, ls1, ls2, lk1, hd0, Int.reduceToNat, Nat.reduceAdd, Nat.reduceLeDiff, Nat.reduceMul, true_and, and_true, w_icmp_eq, w_icmp_ne, w_icmp_lt, w_icmp_ge, w_icmp_gt, w_icmp_le, w_if_eq, w_if_ne, w_if_lt, w_if_ge, w_if_gt, w_if_le, tX2_nextLook_0, kX2_nextLook_0, tX2_nextLook_18, kX2_nextLook_18, tX2_nextLook_21, kX2_nextLook_21, tX2_nextLook_56, kX2_nextLook_56, tX2_nextLook_62, kX2_nextLook_62, tX2_nextLook_69, kX2_nextLook_69, tX2_nextLook_75, kX2_nextLook_75, tX2_nextLook_81, kX2_nextLook_81, tX2_nextLook_98, kX2_nextLook_98, tX2_nextLook_100, kX2_nextLook_100, w_g73, ci_2, wc_X2_isAsleep, w_g70, ci_1, ci_3, ci_4, wc_X2_roveUp, w_g71, wc_X2_roveDown, wc_X2_nextNotDead, w_g67, lg_0, lg_1]
          try simp only [cm_1, cm_1000000, cm_1000001, cm_1000002, cm_1000003, cm_1000010, cm_1000100, lm_1000001, lm_1000002]
          exact hq
end
