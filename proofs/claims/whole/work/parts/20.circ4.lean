section
variable {d c e : Nat} {M : Mm} {L : Ml} {Q : Qt} {C : Ci}
theorem rC.mk8 {M' : Mm} {c e : Nat} {C : Ci} (h : rC M e C) (hP : C 0 0 ≤ 8) (h0 : ∀ k, k < 6 → M' c k = M e k) (hf : ∀ f, 1 ≤ f → f ≤ 6 → ∀ j, j < 8 → M' (c + f) j = M (e + f) j) : rC M' c C := by
  refine ⟨fun k hk => by rw [h0 k hk]; exact h.1 k hk, fun f h1 h2 j hj => by rw [hf (f - 5) (by omega) (by omega) j (by omega)]; exact h.2 f h1 h2 j hj⟩
/-- cell k of each array of c is that of e -/
theorem x_takeFrom (hc : isC c) (he : isC e) (hne : c ≠ e) (hq : ∀ M', (∀ k, k < 6 → M' c k = M e k) → (∀ f, 1 ≤ f → f ≤ 6 → ∀ j, j < 8 → M' (c + f) j = M (e + f) j) → fr c M M' → Q none M' L) (hb : M e 4 = 0 ∨ M e 4 = 1) : Good d nX2_takeFrom [.ref c, .ref e] M L Q := by
  obtain ⟨k0, k1, l1⟩ := isC_f c hc
  obtain ⟨g0, g1, m1⟩ := isC_f e he
  have ap := isC_apart c hc e he hne
  have uE : ∀ (M : Mm) k v, um M c k v e = M e := fun M k v => um_ne M c k v hne.symm
  refine eX2_takeFrom _ _ ?_
  simp (disch := omega) only [w_N, w_iconst, w_lcst, w_iload, w_lload, w_aload, m_i_s, m_l_s, m_a_s, w_istore, w_lstore, w_astore, w_iinc, w_iadd, w_isub, w_imul, w_iand, w_ior, w_ixor, w_ishl, w_ishr, w_iushr, w_idiv, w_irem, w_ineg, w_ladd, w_lsub, w_lmul, w_ldiv, w_lrem, w_lcmp, w_i2l, w_l2i, w_i2b, w_i2s, w_dupi, w_dupr, w_popi, w_popr, w_dup2, w_goto, w_cut, w_switch, sw_nil, sw_cons, w_iald, w_bald, w_zald, w_aald, w_iast, w_bast, w_zast, w_ireturn, w_zr0, w_zr1, w_lreturn, w_areturn, w_vreturn, w_cpy, w_mmax, w_mmin, w_sald, w_slen, sc_nil, sc_i, sc_r, sc_l, tl_s, tl_n, ls1, ls2, lk1, hd0, Int.reduceToNat, Nat.reduceAdd, Nat.reduceLeDiff, Nat.reduceMul, true_and, and_true, w_icmp_eq, w_icmp_ne, w_icmp_lt, w_icmp_ge, w_icmp_gt, w_icmp_le, w_if_eq, w_if_ne, w_if_lt, w_if_ge, w_if_gt, w_if_le, tX2_takeFrom_0, kX2_takeFrom_0, tX2_takeFrom_50, kX2_takeFrom_50, tX2_takeFrom_134, kX2_takeFrom_134, hX2_takeFrom_50, w_g64, w_p64, w_g65, w_p65, w_g66, w_p66, w_g67, w_p67, w_g68, w_p68, w_g69, w_p69, ci_0, ci_8, w_g70, w_g71, w_g72, w_g73, w_g74, w_g75, ci_1, lg_0, lg_1, lg_2, k0, g0, uE]
  try simp only [cm_1, cm_1000000, cm_1000001, cm_1000002, cm_1000003, cm_1000010, cm_1000100, lm_1000001, lm_1000002]
  refine ⟨hb, ?_⟩
  have uA : ∀ (M : Mm) i k v f, i ≤ 6 → f ≤ 6 → um M (c + i) k v (e + f) = M (e + f) := fun M i k v f h1 h2 => um_ne M _ k v (by omega)
  have loop : ∀ m k (M1 : Mm), k + m = 8 → (∀ k, k < 6 → M1 c k = M e k) → (∀ f, 1 ≤ f → f ≤ 6 → ∀ j, j < k → M1 (c + f) j = M (e + f) j) → fr c M M1 → Runs nX2_takeFrom d Q 50 [some (.ref c), some (.ref e), some (.int (nI k))] [] M1 L := by
    intro m
    induction m with
    | zero =>
      intro k M1 hk h0 h1 hf
      have hk8 : k = 8 := by omega
      subst hk8
      refine wpH_runs oX2_takeFrom 60 50 oX2_takeFrom_50 ?_
      simp (disch := omega) only [w_N, w_iconst, w_lcst, w_iload, w_lload, w_aload, m_i_s, m_l_s, m_a_s, w_istore, w_lstore, w_astore, w_iinc, w_iadd, w_isub, w_imul, w_iand, w_ior, w_ixor, w_ishl, w_ishr, w_iushr, w_idiv, w_irem, w_ineg, w_ladd, w_lsub, w_lmul, w_ldiv, w_lrem, w_lcmp, w_i2l, w_l2i, w_i2b, w_i2s, w_dupi, w_dupr, w_popi, w_popr, w_dup2, w_goto, w_cut, w_switch, sw_nil, sw_cons, w_iald, w_bald, w_zald, w_aald, w_iast, w_bast, w_zast, w_ireturn, w_zr0, w_zr1, w_lreturn, w_areturn, w_vreturn, w_cpy, w_mmax, w_mmin, w_sald, w_slen, sc_nil, sc_i, sc_r, sc_l, tl_s, tl_n, ls1, ls2, lk1, hd0, Int.reduceToNat, Nat.reduceAdd, Nat.reduceLeDiff, Nat.reduceMul, true_and, and_true, w_icmp_eq, w_icmp_ne, w_icmp_lt, w_icmp_ge, w_icmp_gt, w_icmp_le, w_if_eq, w_if_ne, w_if_lt, w_if_ge, w_if_gt, w_if_le, tX2_takeFrom_0, kX2_takeFrom_0, tX2_takeFrom_50, kX2_takeFrom_50, tX2_takeFrom_134, kX2_takeFrom_134, hX2_takeFrom_50, w_g64, w_p64, w_g65, w_p65, w_g66, w_p66, w_g67, w_p67, w_g68, w_p68, w_g69, w_p69, ci_0, ci_8, w_g70, w_g71, w_g72, w_g73, w_g74, w_g75, ci_1, lg_0, lg_1, lg_2, nI_leI]
      try simp only [cm_1, cm_1000000, cm_1000001, cm_1000002, cm_1000003, cm_1000010, cm_1000100, lm_1000001, lm_1000002]
      exact ⟨fun _ => hq M1 h0 h1 hf, fun z => absurd trivial z⟩
    | succ m ih =>
      intro k M1 hk h0 h1 hf
      refine wpH_runs oX2_takeFrom 60 50 oX2_takeFrom_50 ?_
      simp (disch := omega) only [w_N, w_iconst, w_lcst, w_iload, w_lload, w_aload, m_i_s, m_l_s, m_a_s, w_istore, w_lstore, w_astore, w_iinc, w_iadd, w_isub, w_imul, w_iand, w_ior, w_ixor, w_ishl, w_ishr, w_iushr, w_idiv, w_irem, w_ineg, w_ladd, w_lsub, w_lmul, w_ldiv, w_lrem, w_lcmp, w_i2l, w_l2i, w_i2b, w_i2s, w_dupi, w_dupr, w_popi, w_popr, w_dup2, w_goto, w_cut, w_switch, sw_nil, sw_cons, w_iald, w_bald, w_zald, w_aald, w_iast, w_bast, w_zast, w_ireturn, w_zr0, w_zr1, w_lreturn, w_areturn, w_vreturn, w_cpy, w_mmax, w_mmin, w_sald, w_slen, sc_nil, sc_i, sc_r, sc_l, tl_s, tl_n, ls1, ls2, lk1, hd0, Int.reduceToNat, Nat.reduceAdd, Nat.reduceLeDiff, Nat.reduceMul, true_and, and_true, w_icmp_eq, w_icmp_ne, w_icmp_lt, w_icmp_ge, w_icmp_gt, w_icmp_le, w_if_eq, w_if_ne, w_if_lt, w_if_ge, w_if_gt, w_if_le, tX2_takeFrom_0, kX2_takeFrom_0, tX2_takeFrom_50, kX2_takeFrom_50, tX2_takeFrom_134, kX2_takeFrom_134, hX2_takeFrom_50, w_g64, w_p64, w_g65, w_p65, w_g66, w_p66, w_g67, w_p67, w_g68, w_p68, w_g69, w_p69, ci_0, ci_8, w_g70, w_g71, w_g72, w_g73, w_g74, w_g75, ci_1, lg_0, lg_1, lg_2, k0, g0, k1, l1, g1, m1, nI_leI, nI_add]
      try simp only [cm_1, cm_1000000, cm_1000001, cm_1000002, cm_1000003, cm_1000010, cm_1000100, lm_1000001, lm_1000002]
      refine ⟨fun z => absurd z (by omega), fun _ => exj (by omega) (exj (by omega) (exj (by omega) (exj (by omega) (exj (by omega) (exj (by omega) (exj (by omega) (exj (by omega) (exj (by omega) (exj (by omega) (exj (by omega) (exj (by omega) ?_)))))))))))⟩
      simp only [uA _ 1 _ _ 2 (by decide) (by decide), uA _ 1 _ _ 3 (by decide) (by decide), uA _ 1 _ _ 4 (by decide) (by decide), uA _ 1 _ _ 5 (by decide) (by decide), uA _ 1 _ _ 6 (by decide) (by decide), uA _ 2 _ _ 3 (by decide) (by decide), uA _ 2 _ _ 4 (by decide) (by decide), uA _ 2 _ _ 5 (by decide) (by decide), uA _ 2 _ _ 6 (by decide) (by decide), uA _ 3 _ _ 4 (by decide) (by decide), uA _ 3 _ _ 5 (by decide) (by decide), uA _ 3 _ _ 6 (by decide) (by decide), uA _ 4 _ _ 5 (by decide) (by decide), uA _ 4 _ _ 6 (by decide) (by decide), uA _ 5 _ _ 6 (by decide) (by decide)]
      have hfe : ∀ f, f ≤ 6 → M1 (e + f) = M (e + f) := fun f hf6 => hf _ (by omega)
      refine ih (k + 1) _ (by omega) (fun i hi => ?_) (fun f f1 f2 j hj => ?_) ((((((hf.um (by omega) (by omega)).um (by omega) (by omega)).um (by omega) (by omega)).um (by omega) (by omega)).um (by omega) (by omega)).um (by omega) (by omega))
      · rw [um_ne _ _ _ _ (by omega), um_ne _ _ _ _ (by omega), um_ne _ _ _ _ (by omega), um_ne _ _ _ _ (by omega), um_ne _ _ _ _ (by omega), um_ne _ _ _ _ (by omega)]
        exact h0 i hi
      · have key : ∀ g, 1 ≤ g → g ≤ 6 → f ≠ g → ∀ (N : Mm) v, um N (c + g) k v (c + f) = N (c + f) := fun g _ _ q N v => um_ne N _ k v (by omega)
        have old : j ≠ k → M1 (c + f) j = M (e + f) j := fun q => h1 f f1 f2 j (by omega)
        have hit : ∀ (N : Mm) v, um N (c + f) k v (c + f) j = if j = k then v else N (c + f) j := fun N v => um_at N _ k v j
        have val := hfe f f2
        rcases (show f = 1 ∨ f = 2 ∨ f = 3 ∨ f = 4 ∨ f = 5 ∨ f = 6 by omega) with rfl | rfl | rfl | rfl | rfl | rfl
        · rw [key 6 (by decide) (by decide) (by decide), key 5 (by decide) (by decide) (by decide), key 4 (by decide) (by decide) (by decide), key 3 (by decide) (by decide) (by decide), key 2 (by decide) (by decide) (by decide), hit, val]
          split
          · rename_i q; rw [q]
          · rename_i q; exact old q
        · rw [key 6 (by decide) (by decide) (by decide), key 5 (by decide) (by decide) (by decide), key 4 (by decide) (by decide) (by decide), key 3 (by decide) (by decide) (by decide), hit, key 1 (by decide) (by decide) (by decide), val]
          split
          · rename_i q; rw [q]
          · rename_i q; exact old q
        · rw [key 6 (by decide) (by decide) (by decide), key 5 (by decide) (by decide) (by decide), key 4 (by decide) (by decide) (by decide), hit, key 2 (by decide) (by decide) (by decide), key 1 (by decide) (by decide) (by decide), val]
          split
          · rename_i q; rw [q]
          · rename_i q; exact old q
        · rw [key 6 (by decide) (by decide) (by decide), key 5 (by decide) (by decide) (by decide), hit, key 3 (by decide) (by decide) (by decide), key 2 (by decide) (by decide) (by decide), key 1 (by decide) (by decide) (by decide), val]
          split
          · rename_i q; rw [q]
          · rename_i q; exact old q
        · rw [key 6 (by decide) (by decide) (by decide), hit, key 4 (by decide) (by decide) (by decide), key 3 (by decide) (by decide) (by decide), key 2 (by decide) (by decide) (by decide), key 1 (by decide) (by decide) (by decide), val]
          split
          · rename_i q; rw [q]
          · rename_i q; exact old q
        · rw [hit, key 5 (by decide) (by decide) (by decide), key 4 (by decide) (by decide) (by decide), key 3 (by decide) (by decide) (by decide), key 2 (by decide) (by decide) (by decide), key 1 (by decide) (by decide) (by decide), val]
          split
          · rename_i q; rw [q]
          · rename_i q; exact old q
  refine loop 8 0 _ (by omega) (fun i hi => ?_) (fun f f1 f2 j hj => absurd hj (by omega)) ((((((fr.rf.um (by omega) (by omega)).um (by omega) (by omega)).um (by omega) (by omega)).um (by omega) (by omega)).um (by omega) (by omega)).um (by omega) (by omega))
  simp only [um_at]
  rcases (show i = 0 ∨ i = 1 ∨ i = 2 ∨ i = 3 ∨ i = 4 ∨ i = 5 by omega) with rfl | rfl | rfl | rfl | rfl | rfl <;> rfl
/-- copied, as a circle -/
theorem x_takeC (hc : isC c) (he : isC e) (hne : c ≠ e) (h : rC M e C) (hw : wf C) (hq : ∀ M', rC M' c C → fr c M M' → Q none M' L) : Good d nX2_takeFrom [.ref c, .ref e] M L Q := by
  refine x_takeFrom hc he hne (fun M' h0 h1 hf => hq M' (h.mk8 hw.1.2 h0 h1) hf) ?_
  have e4 := h.1 4 (by decide)
  have h4 := hw.2.2.2.1
  rw [e4]
  rcases (show C 4 0 = 0 ∨ C 4 0 = 1 by omega) with q | q <;> rw [q]
  · exact Or.inl nI_0
  · exact Or.inr (by decide)
end
