/-! a circle's text, read -/
abbrev Tp : Type := Nat × (Nat → Nat)
abbrev isD (T : Tp) (a : Nat) : Prop := a < T.1 ∧ 48 ≤ T.2 a ∧ T.2 a ≤ 57
def rng (lo hi a v f : Nat) : Nat × Nat × Nat := if lo ≤ v ∧ v ≤ hi then (0, a + f, v) else (2, a, lo)
def rdN (T : Tp) (lo hi a : Nat) : Nat × Nat × Nat :=
  if isD T a then (if isD T (a + 1) then (if isD T (a + 2) then (1, a, lo) else rng lo hi a ((T.2 a - 48) * 10 + T.2 (a + 1) - 48) 2) else rng lo hi a (T.2 a - 48) 1) else (1, a, lo)
def rdS (T : Tp) (sg a : Nat) : Nat × Nat := if a < T.1 ∧ T.2 a = sg then (0, a + 1) else (1, a)
def opN (T : Tp) (lo hi : Nat) (q : Nat × Nat) : Nat × Nat × Nat := if q.1 = 0 then rdN T lo hi q.2 else (q.1, q.2, lo)
def opS (T : Tp) (sg : Nat) (q : Nat × Nat) : Nat × Nat := if q.1 = 0 then rdS T sg q.2 else q
def srt (b : Nat) : Nat := if b = 114 then 1 else if b = 115 then 2 else if b = 98 then 3 else if b = 104 then 4 else if b = 100 then 5 else 0
def n2 (r : Nat × Nat × Nat) : Nat × Nat := (r.1, r.2.1)
def plL (T : Tp) (a : Nat) : Nat × Nat × Nat := opN T 0 7 (0, a + 1)
def plS (T : Tp) (a : Nat) : Nat × Nat × Nat := opN T 1 9 (opS T 44 (n2 (plL T a)))
def plE (T : Tp) (a : Nat) : Nat × Nat := opS T 59 (n2 (plS T a))
def upn (K : Nat → Nat) (p v : Nat) : Nat → Nat := fun j => if j = p then v else K j
abbrev Pr : Type := Nat × Nat × Nat × (Nat → Nat) × (Nat → Nat) × (Nat → Nat)
def prsL (T : Tp) : Nat → Nat → Nat → (Nat → Nat) → (Nat → Nat) → (Nat → Nat) → Pr
  | 0, p, a, K, Lo, Sl => (1, a, p, K, Lo, Sl)
  | m + 1, p, a, K, Lo, Sl => if T.1 ≤ a then (if p < 3 then (1, a, p, K, Lo, Sl) else (0, a, p, K, Lo, Sl)) else if srt (T.2 a) = 0 then (1, a, p, K, Lo, Sl) else if 8 ≤ p then (3, a, p, K, Lo, Sl) else if (plE T a).1 = 0 then prsL T m (p + 1) (plE T a).2 (upn K p (srt (T.2 a))) (upn Lo p (plL T a).2.2) (upn Sl p (plS T a).2.2) else ((plE T a).1, (plE T a).2, p, K, Lo, Sl)
def hdM (T : Tp) : Nat × Nat × Nat := opN T 0 7 (opS T 119 (0, 0))
def hdP (T : Tp) : Nat × Nat × Nat := opN T 1 9 (opS T 44 (n2 (hdM T)))
def hdE (T : Tp) : Nat × Nat := opS T 59 (n2 (hdP T))
def kz : Nat → Nat := fun _ => 0
def prs (T : Tp) : Pr := if (hdE T).1 = 0 then prsL T 9 0 (hdE T).2 kz kz kz else ((hdE T).1, (hdE T).2, 0, kz, kz, kz)
/-- what a reader may show -/
def okQ (T : Tp) (q : Nat × Nat) : Prop := q.1 ≤ 3 ∧ q.2 ≤ T.1
def okR (T : Tp) (lo hi : Nat) (r : Nat × Nat × Nat) : Prop := r.1 ≤ 3 ∧ r.2.1 ≤ T.1 ∧ lo ≤ r.2.2 ∧ r.2.2 ≤ hi
theorem rng_ok {T : Tp} {lo hi a v f : Nat} (h : lo ≤ hi) (ha : a + f ≤ T.1) : okR T lo hi (rng lo hi a v f) := by
  unfold rng
  split
  · rename_i q; exact ⟨Nat.zero_le _, ha, q.1, q.2⟩
  · exact ⟨by show (2 : Nat) ≤ 3; decide, by show a ≤ T.1; omega, Nat.le_refl _, h⟩
theorem rdN_ok {T : Tp} {lo hi a : Nat} (h : lo ≤ hi) (ha : a ≤ T.1) : okR T lo hi (rdN T lo hi a) := by
  have h1 : okR T lo hi (1, a, lo) := ⟨by show (1 : Nat) ≤ 3; decide, ha, Nat.le_refl _, h⟩
  unfold rdN
  split
  · rename_i q1
    split
    · rename_i q2
      split
      · exact h1
      · exact rng_ok h (by have := q2.1; omega)
    · exact rng_ok h (by have := q1.1; omega)
  · exact h1
theorem rdS_ok {T : Tp} {sg a : Nat} (ha : a ≤ T.1) : okQ T (rdS T sg a) := by
  unfold rdS
  split
  · rename_i q; exact ⟨Nat.zero_le _, q.1⟩
  · exact ⟨by show (1 : Nat) ≤ 3; decide, ha⟩
theorem opN_ok {T : Tp} {lo hi : Nat} {q : Nat × Nat} (h : lo ≤ hi) (hq : okQ T q) : okR T lo hi (opN T lo hi q) := by
  unfold opN
  split
  · exact rdN_ok h hq.2
  · exact ⟨hq.1, hq.2, Nat.le_refl _, h⟩
theorem opS_ok {T : Tp} {sg : Nat} {q : Nat × Nat} (hq : okQ T q) : okQ T (opS T sg q) := by
  unfold opS
  split
  · exact rdS_ok hq.2
  · exact hq
theorem okR.n2 {T : Tp} {lo hi : Nat} {r : Nat × Nat × Nat} (h : okR T lo hi r) : okQ T (n2 r) := ⟨h.1, h.2.1⟩
theorem hdM_ok {T : Tp} : okR T 0 7 (hdM T) := opN_ok (by decide) (opS_ok ⟨by decide, Nat.zero_le _⟩)
theorem hdP_ok {T : Tp} : okR T 1 9 (hdP T) := opN_ok (by decide) (opS_ok hdM_ok.n2)
theorem hdE_ok {T : Tp} : okQ T (hdE T) := opS_ok hdP_ok.n2
theorem plL_ok {T : Tp} {a : Nat} (ha : a < T.1) : okR T 0 7 (plL T a) := opN_ok (by decide) ⟨Nat.zero_le _, ha⟩
theorem plS_ok {T : Tp} {a : Nat} (ha : a < T.1) : okR T 1 9 (plS T a) := opN_ok (by decide) (opS_ok (plL_ok ha).n2)
theorem plE_ok {T : Tp} {a : Nat} (ha : a < T.1) : okQ T (plE T a) := opS_ok (plS_ok ha).n2
theorem srt_le {b : Nat} : srt b ≤ 5 := by unfold srt; split; decide; split; decide; split; decide; split; decide; split <;> decide
def okK (p : Nat) (K Lo Sl : Nat → Nat) : Prop := ∀ j, j < p → (1 ≤ K j ∧ K j ≤ 5) ∧ Lo j ≤ 7 ∧ (1 ≤ Sl j ∧ Sl j ≤ 9)
theorem okK_s {T : Tp} {p a : Nat} {K Lo Sl : Nat → Nat} (h : okK p K Lo Sl) (ha : a < T.1) (hs : ¬ srt (T.2 a) = 0) : okK (p + 1) (upn K p (srt (T.2 a))) (upn Lo p (plL T a).2.2) (upn Sl p (plS T a).2.2) := by
  intro j hj
  have hl := plL_ok ha
  have hsl := plS_ok ha
  unfold upn
  by_cases q : j = p
  · rw [if_pos q, if_pos q, if_pos q]
    exact ⟨⟨by omega, srt_le⟩, hl.2.2.2, hsl.2.2⟩
  · rw [if_neg q, if_neg q, if_neg q]
    exact h j (by omega)
theorem prsL_ok {T : Tp} : ∀ m p a K Lo Sl, a ≤ T.1 → p + m = 9 → okK p K Lo Sl → (prsL T m p a K Lo Sl).1 ≤ 3 ∧ (prsL T m p a K Lo Sl).2.1 ≤ T.1 ∧ ((prsL T m p a K Lo Sl).1 = 0 → 3 ≤ (prsL T m p a K Lo Sl).2.2.1 ∧ (prsL T m p a K Lo Sl).2.2.1 ≤ 8 ∧ okK (prsL T m p a K Lo Sl).2.2.1 (prsL T m p a K Lo Sl).2.2.2.1 (prsL T m p a K Lo Sl).2.2.2.2.1 (prsL T m p a K Lo Sl).2.2.2.2.2)
  | 0, p, a, K, Lo, Sl, ha, _, _ => ⟨by show (1 : Nat) ≤ 3; decide, ha, fun q => absurd (show (1 : Nat) = 0 from q) (by decide)⟩
  | m + 1, p, a, K, Lo, Sl, ha, hp, hk => by
    unfold prsL
    by_cases q1 : T.1 ≤ a
    · rw [if_pos q1]
      by_cases q2 : p < 3
      · rw [if_pos q2]; exact ⟨by show (1 : Nat) ≤ 3; decide, ha, fun q => absurd (show (1 : Nat) = 0 from q) (by decide)⟩
      · rw [if_neg q2]; exact ⟨by show (0 : Nat) ≤ 3; decide, ha, fun _ => ⟨by show 3 ≤ p; omega, by show p ≤ 8; omega, hk⟩⟩
    · rw [if_neg q1]
      by_cases q2 : srt (T.2 a) = 0
      · rw [if_pos q2]; exact ⟨by show (1 : Nat) ≤ 3; decide, ha, fun q => absurd (show (1 : Nat) = 0 from q) (by decide)⟩
      · rw [if_neg q2]
        by_cases q3 : 8 ≤ p
        · rw [if_pos q3]; exact ⟨by show (3 : Nat) ≤ 3; decide, ha, fun q => absurd (show (3 : Nat) = 0 from q) (by decide)⟩
        · rw [if_neg q3]
          have he := plE_ok (T := T) (a := a) (by omega)
          by_cases q4 : (plE T a).1 = 0
          · rw [if_pos q4]; exact prsL_ok m (p + 1) _ _ _ _ he.2 (by omega) (okK_s hk (by omega) q2)
          · rw [if_neg q4]; exact ⟨he.1, he.2, fun q => absurd q q4⟩
theorem prs_ok {T : Tp} : (prs T).1 ≤ 3 ∧ (prs T).2.1 ≤ T.1 ∧ ((prs T).1 = 0 → 3 ≤ (prs T).2.2.1 ∧ (prs T).2.2.1 ≤ 8 ∧ okK (prs T).2.2.1 (prs T).2.2.2.1 (prs T).2.2.2.2.1 (prs T).2.2.2.2.2) := by
  have he := @hdE_ok T
  unfold prs
  by_cases q : (hdE T).1 = 0
  · rw [if_pos q]; exact prsL_ok 9 0 _ _ _ _ he.2 (by decide) fun j hj => absurd hj (Nat.not_lt_zero j)
  · rw [if_neg q]; exact ⟨he.1, he.2, fun z => absurd z q⟩
/-! the class reads -/
def cRd (M : Mm) (T : Tp) (q : Nat × Nat) : Prop := cTap M T ∧ M 13 2 = nI q.2 ∧ M 13 3 = nI q.1
def frR (M M' : Mm) : Prop := ∀ x, x ≠ 13 → M' x = M x
theorem frR.rf {M : Mm} : frR M M := fun _ _ => rfl
theorem frR.tr {M M1 M2 : Mm} (h1 : frR M M1) (h2 : frR M1 M2) : frR M M2 := fun x hx => (h2 x hx).trans (h1 x hx)
theorem cRd.at' {M : Mm} {T : Tp} {q : Nat × Nat} (h : cRd M T q) (v : Nat) : cRd (um M 13 2 (nI v)) T (q.1, v) := ⟨⟨by rw [um_at, if_neg (by decide)]; exact h.1.1, fun i hi => by rw [um_ne _ _ _ _ (by decide)]; exact h.1.2 i hi⟩, by rw [um_at, if_pos rfl], by rw [um_at, if_neg (by decide)]; exact h.2.2⟩
theorem cRd.ft {M : Mm} {T : Tp} {q : Nat × Nat} (h : cRd M T q) (v : Nat) : cRd (um M 13 3 (nI v)) T (v, q.2) := ⟨⟨by rw [um_at, if_neg (by decide)]; exact h.1.1, fun i hi => by rw [um_ne _ _ _ _ (by decide)]; exact h.1.2 i hi⟩, by rw [um_at, if_neg (by decide)]; exact h.2.1, by rw [um_at, if_pos rfl]⟩
theorem cRd.cp {M M' : Mm} {T : Tp} {q : Nat × Nat} (h : cRd M T q) (h1 : M' 13 = M 13) (h2 : M' 14 = M 14) : cRd M' T q := ⟨h.1.cp h1 h2, by rw [h1]; exact h.2.1, by rw [h1]; exact h.2.2⟩
theorem um13 {M : Mm} {k : Nat} {v : Int32} : frR M (um M 13 k v) := fun x hx => um_ne _ _ _ _ hx
section
variable {d : Nat} {M : Mm} {L : Ml} {Q : Qt} {T : Tp} {q : Nat × Nat}
theorem x_readSign (h : cRd M T q) (hT : T.1 ≤ 100) (hB : ∀ i, i < T.1 → T.2 i < 256) (hk : okQ T q) {sg : Nat} (hs : sg < 256) (hq : ∀ M', cRd M' T (opS T sg q) → frR M M' → Q none M' L) : Good d nX5_readSign [.ref 13, .int (nI sg)] M L Q := by
  obtain ⟨f, a⟩ := q
  have e1 := h.1.1
  have e2 : M 13 2 = nI a := h.2.1
  have e3 : M 13 3 = nI f := h.2.2
  have k1 : f ≤ 3 := hk.1
  have k2 : a ≤ T.1 := hk.2
  refine eX5_readSign _ _ ?_
  try simp (disch := omega) only [w_N, w_iconst, w_lcst, w_iload, w_lload, w_aload, m_i_s, m_l_s, m_a_s, w_istore, w_lstore, w_astore, w_iinc, w_iadd, w_isub, w_imul, w_iand, w_ior, w_ixor, w_ishl, w_ishr, w_iushr, w_idiv, w_irem, w_ineg, w_ladd, w_lsub, w_lmul, w_ldiv, w_lrem, w_lcmp, w_i2l, w_l2i, w_i2b, w_i2s, w_dupi, w_dupr, w_popi, w_popr, w_dup2, w_goto, w_cut, w_switch, sw_nil, sw_cons, w_iald, w_bald, w_zald, w_aald, w_iast, w_bast, w_zast, w_ireturn, w_zr0, w_zr1, w_lreturn, w_areturn, w_vreturn, w_cpy, w_mmax, w_mmin, w_sald, w_slen, sc_nil, sc_i, sc_r, sc_l, tl_s, tl_n, ls1, ls2, lk1, hd0, Int.reduceToNat, Nat.reduceAdd, Nat.reduceLeDiff, Nat.reduceMul, true_and, and_true, w_icmp_eq, w_icmp_ne, w_icmp_lt, w_icmp_ge, w_icmp_gt, w_icmp_le, w_if_eq, w_if_ne, w_if_lt, w_if_ge, w_if_gt, w_if_le, ki_0, ki_1, ki_2, li_2, ki_3, li_3, ki_4, li_4, ki_5, li_5, ki_6, li_6, ki_7, li_7, ki_8, li_8, ki_9, li_9, ki_10, li_10, ki_11, li_11, ki_12, li_12, ki_13, ki_14, li_14, ki_15, ki_16, li_16, ki_17, li_17, ki_18, li_18, ki_19, li_19, ki_20, li_20, ki_21, li_21, ki_22, ki_23, li_23, ki_24, li_24, ki_25, li_25, ki_26, li_26, ki_27, li_27, ki_28, li_28, ki_29, ki_30, li_30, ki_199, li_199, ki_200, ki_207, ki_214, ki_215, ki_216, li_216, ki_217, li_217, ki_218, li_218, ki_219, li_219, ki_220, li_220, ki_221, li_221, ki_222, ki_223, li_223, ki_224, li_224, ki_225, li_225, ki_226, li_226, ki_227, li_227, ki_228, li_228, ki_229, li_229, ki_230, ki_231, li_231, ki_232, ki_233, li_233, ki_234, li_234, ki_235, li_235, ki_236, li_236, ki_237, li_237, ki_238, li_238, ki_239, li_239, ki_240, li_240, ki_241, li_241, ki_242, li_242, ki_243, li_243, ki_244, li_244, ki_245, li_245, tX5_readSign_0, kX5_readSign_0, tX5_readSign_8, kX5_readSign_8, tX5_readSign_32, kX5_readSign_32, tX5_readSign_38, kX5_readSign_38, w_g163, w_g162, w_g161, w_g160, ci_1, w_p163, w_p162, lg_0, lg_1, e1, e2, e3, ← zn0, nI_eq, nI_leI, nI_add]
  try simp only [cm_1, cm_1000000, cm_1000001, cm_1000002, cm_1000003, cm_1000010, cm_1000100, lm_1000001, lm_1000002]
  unfold opS rdS at hq
  refine ⟨fun z => ⟨fun y => ?_, fun y => exj (by omega) ?_⟩, fun z => ?_⟩
  · rw [if_pos z, if_neg (fun w => absurd w.1 (by omega))] at hq
    exact hq _ (h.ft 1) um13
  · have eb := h.1.2 a (by omega)
    have hb := hB a (by omega)
    rw [eb]
    simp (disch := omega) only [nI_eq]
    refine ⟨fun w => ?_, fun w => ?_⟩
    · rw [if_pos z, if_pos ⟨by omega, w⟩] at hq
      exact hq _ (by have := h.at' (a + 1); rw [show ((f, a) : Nat × Nat).1 = 0 from z] at this; exact this) um13
    · rw [if_pos z, if_neg (fun v => w v.2)] at hq
      exact hq _ (h.ft 1) um13
  · rw [if_neg z] at hq
    exact hq M h frR.rf
theorem x_isFigureAt (h : cTap M T) (hT : T.1 ≤ 100) (hB : ∀ i, i < T.1 → T.2 i < 256) {a : Nat} (ha : a < 200) (hq : Q (some (.int (nI (if isD T a then 1 else 0)))) M L) : Good d nX5_isFigureAt [.ref 13, .int (nI a)] M L Q := by
  have e1 := h.1
  refine eX5_isFigureAt _ _ ?_
  try simp (disch := omega) only [w_N, w_iconst, w_lcst, w_iload, w_lload, w_aload, m_i_s, m_l_s, m_a_s, w_istore, w_lstore, w_astore, w_iinc, w_iadd, w_isub, w_imul, w_iand, w_ior, w_ixor, w_ishl, w_ishr, w_iushr, w_idiv, w_irem, w_ineg, w_ladd, w_lsub, w_lmul, w_ldiv, w_lrem, w_lcmp, w_i2l, w_l2i, w_i2b, w_i2s, w_dupi, w_dupr, w_popi, w_popr, w_dup2, w_goto, w_cut, w_switch, sw_nil, sw_cons, w_iald, w_bald, w_zald, w_aald, w_iast, w_bast, w_zast, w_ireturn, w_zr0, w_zr1, w_lreturn, w_areturn, w_vreturn, w_cpy, w_mmax, w_mmin, w_sald, w_slen, sc_nil, sc_i, sc_r, sc_l, tl_s, tl_n, ls1, ls2, lk1, hd0, Int.reduceToNat, Nat.reduceAdd, Nat.reduceLeDiff, Nat.reduceMul, true_and, and_true, w_icmp_eq, w_icmp_ne, w_icmp_lt, w_icmp_ge, w_icmp_gt, w_icmp_le, w_if_eq, w_if_ne, w_if_lt, w_if_ge, w_if_gt, w_if_le, ki_0, ki_1, ki_2, li_2, ki_3, li_3, ki_4, li_4, ki_5, li_5, ki_6, li_6, ki_7, li_7, ki_8, li_8, ki_9, li_9, ki_10, li_10, ki_11, li_11, ki_12, li_12, ki_13, ki_14, li_14, ki_15, ki_16, li_16, ki_17, li_17, ki_18, li_18, ki_19, li_19, ki_20, li_20, ki_21, li_21, ki_22, ki_23, li_23, ki_24, li_24, ki_25, li_25, ki_26, li_26, ki_27, li_27, ki_28, li_28, ki_29, ki_30, li_30, ki_199, li_199, ki_200, ki_207, ki_214, ki_215, ki_216, li_216, ki_217, li_217, ki_218, li_218, ki_219, li_219, ki_220, li_220, ki_221, li_221, ki_222, ki_223, li_223, ki_224, li_224, ki_225, li_225, ki_226, li_226, ki_227, li_227, ki_228, li_228, ki_229, li_229, ki_230, ki_231, li_231, ki_232, ki_233, li_233, ki_234, li_234, ki_235, li_235, ki_236, li_236, ki_237, li_237, ki_238, li_238, ki_239, li_239, ki_240, li_240, ki_241, li_241, ki_242, li_242, ki_243, li_243, ki_244, li_244, ki_245, li_245, tX5_isFigureAt_0, kX5_isFigureAt_0, tX5_isFigureAt_34, kX5_isFigureAt_34, tX5_isFigureAt_35, kX5_isFigureAt_35, w_g161, w_g160, ci_48, ci_57, ci_1, ci_0, lg_0, lg_1, e1, nI_leI]
  try simp only [cm_1, cm_1000000, cm_1000001, cm_1000002, cm_1000003, cm_1000010, cm_1000100, lm_1000001, lm_1000002]
  refine ⟨fun z => ?_, fun z => exj (by omega) ?_⟩
  · rw [if_neg (fun w => absurd w.1 (by omega))] at hq; exact hq
  · have eb := h.2 a (by omega)
    have hb := hB a (by omega)
    rw [eb]
    simp (disch := omega) only [nI_ltI]
    refine ⟨fun w => ?_, fun w => exj (by omega) ?_⟩
    · rw [if_neg (fun v => absurd v.2.1 (by omega))] at hq; exact hq
    · rw [eb]
      simp (disch := omega) only [nI_ltI]
      refine ⟨fun v => ?_, fun v => ?_⟩
      · rw [if_neg (fun u => absurd u.2.2 (by omega))] at hq; exact hq
      · rw [if_pos ⟨by omega, by omega, by omega⟩] at hq; exact hq
theorem x_sortOf {b : Nat} (hb : b < 256) (hq : Q (some (.int (nI (srt b)))) M L) : Good d nX5_sortOf [.int (nI b)] M L Q := by
  refine eX5_sortOf _ ?_
  try simp (disch := omega) only [w_N, w_iconst, w_lcst, w_iload, w_lload, w_aload, m_i_s, m_l_s, m_a_s, w_istore, w_lstore, w_astore, w_iinc, w_iadd, w_isub, w_imul, w_iand, w_ior, w_ixor, w_ishl, w_ishr, w_iushr, w_idiv, w_irem, w_ineg, w_ladd, w_lsub, w_lmul, w_ldiv, w_lrem, w_lcmp, w_i2l, w_l2i, w_i2b, w_i2s, w_dupi, w_dupr, w_popi, w_popr, w_dup2, w_goto, w_cut, w_switch, sw_nil, sw_cons, w_iald, w_bald, w_zald, w_aald, w_iast, w_bast, w_zast, w_ireturn, w_zr0, w_zr1, w_lreturn, w_areturn, w_vreturn, w_cpy, w_mmax, w_mmin, w_sald, w_slen, sc_nil, sc_i, sc_r, sc_l, tl_s, tl_n, ls1, ls2, lk1, hd0, Int.reduceToNat, Nat.reduceAdd, Nat.reduceLeDiff, Nat.reduceMul, true_and, and_true, w_icmp_eq, w_icmp_ne, w_icmp_lt, w_icmp_ge, w_icmp_gt, w_icmp_le, w_if_eq, w_if_ne, w_if_lt, w_if_ge, w_if_gt, w_if_le, ki_0, ki_1, ki_2, li_2, ki_3, li_3, ki_4, li_4, ki_5, li_5, ki_6, li_6, ki_7, li_7, ki_8, li_8, ki_9, li_9, ki_10, li_10, ki_11, li_11, ki_12, li_12, ki_13, ki_14, li_14, ki_15, ki_16, li_16, ki_17, li_17, ki_18, li_18, ki_19, li_19, ki_20, li_20, ki_21, li_21, ki_22, ki_23, li_23, ki_24, li_24, ki_25, li_25, ki_26, li_26, ki_27, li_27, ki_28, li_28, ki_29, ki_30, li_30, ki_199, li_199, ki_200, ki_207, ki_214, ki_215, ki_216, li_216, ki_217, li_217, ki_218, li_218, ki_219, li_219, ki_220, li_220, ki_221, li_221, ki_222, ki_223, li_223, ki_224, li_224, ki_225, li_225, ki_226, li_226, ki_227, li_227, ki_228, li_228, ki_229, li_229, ki_230, ki_231, li_231, ki_232, ki_233, li_233, ki_234, li_234, ki_235, li_235, ki_236, li_236, ki_237, li_237, ki_238, li_238, ki_239, li_239, ki_240, li_240, ki_241, li_241, ki_242, li_242, ki_243, li_243, ki_244, li_244, ki_245, li_245, tX5_sortOf_0, kX5_sortOf_0, tX5_sortOf_52, kX5_sortOf_52, tX5_sortOf_54, kX5_sortOf_54, tX5_sortOf_56, kX5_sortOf_56, tX5_sortOf_58, kX5_sortOf_58, tX5_sortOf_60, kX5_sortOf_60, tX5_sortOf_62, kX5_sortOf_62, ci_98, ci_100, ci_104, ci_114, ci_115, ci_1, ci_2, ci_3, ci_4, ci_5, ci_0, lg_0, nI_eq]
  try simp only [cm_1, cm_1000000, cm_1000001, cm_1000002, cm_1000003, cm_1000010, cm_1000100, lm_1000001, lm_1000002]
  unfold srt at hq
  refine ⟨fun z => ?_, fun z1 => ⟨fun z => ?_, fun z2 => ⟨fun z => ?_, fun z3 => ⟨fun z => ?_, fun z4 => ⟨fun z => ?_, fun z5 => ?_⟩⟩⟩⟩⟩
  · subst z; exact hq
  · subst z; exact hq
  · subst z; exact hq
  · subst z; exact hq
  · subst z; exact hq
  · rw [if_neg z4, if_neg z5, if_neg z1, if_neg z3, if_neg z2] at hq; exact hq
theorem x_readNumber (h : cRd M T q) (hT : T.1 ≤ 100) (hB : ∀ i, i < T.1 → T.2 i < 256) (hk : okQ T q) {lo hi : Nat} (hl : lo < 100) (hh : hi < 100) (hq : ∀ M', cRd M' T (n2 (opN T lo hi q)) → frR M M' → Q (some (.int (nI (opN T lo hi q).2.2))) M' L) : Good (d + 1) nX5_readNumber [.ref 13, .int (nI lo), .int (nI hi)] M L Q := by
  obtain ⟨f, a⟩ := q
  have e1 := h.1.1
  have e2 : M 13 2 = nI a := h.2.1
  have e3 : M 13 3 = nI f := h.2.2
  have k1 : f ≤ 3 := hk.1
  have k2 : a ≤ T.1 := hk.2
  refine eX5_readNumber _ _ _ ?_
  try simp (disch := omega) only [w_N, w_iconst, w_lcst, w_iload, w_lload, w_aload, m_i_s, m_l_s, m_a_s, w_istore, w_lstore, w_astore, w_iinc, w_iadd, w_isub, w_imul, w_iand, w_ior, w_ixor, w_ishl, w_ishr, w_iushr, w_idiv, w_irem, w_ineg, w_ladd, w_lsub, w_lmul, w_ldiv, w_lrem, w_lcmp, w_i2l, w_l2i, w_i2b, w_i2s, w_dupi, w_dupr, w_popi, w_popr, w_dup2, w_goto, w_cut, w_switch, sw_nil, sw_cons, w_iald, w_bald, w_zald, w_aald, w_iast, w_bast, w_zast, w_ireturn, w_zr0, w_zr1, w_lreturn, w_areturn, w_vreturn, w_cpy, w_mmax, w_mmin, w_sald, w_slen, sc_nil, sc_i, sc_r, sc_l, tl_s, tl_n, ls1, ls2, lk1, hd0, Int.reduceToNat, Nat.reduceAdd, Nat.reduceLeDiff, Nat.reduceMul, true_and, and_true, w_icmp_eq, w_icmp_ne, w_icmp_lt, w_icmp_ge, w_icmp_gt, w_icmp_le, w_if_eq, w_if_ne, w_if_lt, w_if_ge, w_if_gt, w_if_le, ki_0, ki_1, ki_2, li_2, ki_3, li_3, ki_4, li_4, ki_5, li_5, ki_6, li_6, ki_7, li_7, ki_8, li_8, ki_9, li_9, ki_10, li_10, ki_11, li_11, ki_12, li_12, ki_13, ki_14, li_14, ki_15, ki_16, li_16, ki_17, li_17, ki_18, li_18, ki_19, li_19, ki_20, li_20, ki_21, li_21, ki_22, ki_23, li_23, ki_24, li_24, ki_25, li_25, ki_26, li_26, ki_27, li_27, ki_28, li_28, ki_29, ki_30, li_30, ki_199, li_199, ki_200, ki_207, ki_214, ki_215, ki_216, li_216, ki_217, li_217, ki_218, li_218, ki_219, li_219, ki_220, li_220, ki_221, li_221, ki_222, ki_223, li_223, ki_224, li_224, ki_225, li_225, ki_226, li_226, ki_227, li_227, ki_228, li_228, ki_229, li_229, ki_230, ki_231, li_231, ki_232, ki_233, li_233, ki_234, li_234, ki_235, li_235, ki_236, li_236, ki_237, li_237, ki_238, li_238, ki_239, li_239, ki_240, li_240, ki_241, li_241, ki_242, li_242, ki_243, li_243, ki_244, li_244, ki_245, li_245, tX5_readNumber_0, kX5_readNumber_0, tX5_readNumber_9, kX5_readNumber_9, hX5_readNumber_14, w_g163, ci_0, ci_2, ci_1, w_p163, w_g162, w_p162, wc_X5_isFigureAt, ci_10, w_g160, ci_48, lg_0, lg_1, lg_2, lg_3, lg_4, e3, ← zn0, nI_eq]
  try simp only [cm_1, cm_1000000, cm_1000001, cm_1000002, cm_1000003, cm_1000010, cm_1000100, lm_1000001, lm_1000002]
  unfold opN at hq
  refine ⟨fun z => ?_, fun z => ?_⟩
  · rw [if_pos z] at hq
    subst z
    unfold rdN at hq
    have bad : ∀ (k v : Nat) , (k = 0 ∨ 2 < k) → k ≤ 3 → (if isD T a then (if isD T (a + 1) then (if isD T (a + 2) then (1, a, lo) else rng lo hi a ((T.2 a - 48) * 10 + T.2 (a + 1) - 48) 2) else rng lo hi a (T.2 a - 48) 1) else (1, a, lo)) = (1, a, lo) → ∀ f, wp (wpN 82 (d + 1) tX5_readNumber Q (f + 5)) (Runs 82 (d + 1) Q) (CallOk (d + 1)) Q (tb tX5_readNumber 61) [some (.ref 13), some (.int (nI lo)), some (.int (nI hi)), some (.int (nI v)), some (.int (nI k))] [] M L := by
      intro k v hk1 hk2 he f
      rw [he] at hq
      try simp (disch := omega) only [w_N, w_iconst, w_lcst, w_iload, w_lload, w_aload, m_i_s, m_l_s, m_a_s, w_istore, w_lstore, w_astore, w_iinc, w_iadd, w_isub, w_imul, w_iand, w_ior, w_ixor, w_ishl, w_ishr, w_iushr, w_idiv, w_irem, w_ineg, w_ladd, w_lsub, w_lmul, w_ldiv, w_lrem, w_lcmp, w_i2l, w_l2i, w_i2b, w_i2s, w_dupi, w_dupr, w_popi, w_popr, w_dup2, w_goto, w_cut, w_switch, sw_nil, sw_cons, w_iald, w_bald, w_zald, w_aald, w_iast, w_bast, w_zast, w_ireturn, w_zr0, w_zr1, w_lreturn, w_areturn, w_vreturn, w_cpy, w_mmax, w_mmin, w_sald, w_slen, sc_nil, sc_i, sc_r, sc_l, tl_s, tl_n, ls1, ls2, lk1, hd0, Int.reduceToNat, Nat.reduceAdd, Nat.reduceLeDiff, Nat.reduceMul, true_and, and_true, w_icmp_eq, w_icmp_ne, w_icmp_lt, w_icmp_ge, w_icmp_gt, w_icmp_le, w_if_eq, w_if_ne, w_if_lt, w_if_ge, w_if_gt, w_if_le, ki_0, ki_1, ki_2, li_2, ki_3, li_3, ki_4, li_4, ki_5, li_5, ki_6, li_6, ki_7, li_7, ki_8, li_8, ki_9, li_9, ki_10, li_10, ki_11, li_11, ki_12, li_12, ki_13, ki_14, li_14, ki_15, ki_16, li_16, ki_17, li_17, ki_18, li_18, ki_19, li_19, ki_20, li_20, ki_21, li_21, ki_22, ki_23, li_23, ki_24, li_24, ki_25, li_25, ki_26, li_26, ki_27, li_27, ki_28, li_28, ki_29, ki_30, li_30, ki_199, li_199, ki_200, ki_207, ki_214, ki_215, ki_216, li_216, ki_217, li_217, ki_218, li_218, ki_219, li_219, ki_220, li_220, ki_221, li_221, ki_222, ki_223, li_223, ki_224, li_224, ki_225, li_225, ki_226, li_226, ki_227, li_227, ki_228, li_228, ki_229, li_229, ki_230, ki_231, li_231, ki_232, ki_233, li_233, ki_234, li_234, ki_235, li_235, ki_236, li_236, ki_237, li_237, ki_238, li_238, ki_239, li_239, ki_240, li_240, ki_241, li_241, ki_242, li_242, ki_243, li_243, ki_244, li_244, ki_245, li_245, tX5_readNumber_61, kX5_readNumber_61, tX5_readNumber_72, kX5_readNumber_72, hX5_readNumber_14, w_g163, ci_0, ci_2, ci_1, w_p163, w_g162, w_p162, wc_X5_isFigureAt, ci_10, w_g160, ci_48, lg_0, lg_1, lg_2, lg_3, lg_4, ← zn0, nI_eq, nI_leI]
      try simp only [cm_1, cm_1000000, cm_1000001, cm_1000002, cm_1000003, cm_1000010, cm_1000100, lm_1000001, lm_1000002]
      refine ⟨fun _ => hq _ (h.ft 1) um13, fun y => ⟨fun w => absurd w (by omega), fun _ => hq _ (h.ft 1) um13⟩⟩
    have good : ∀ (k v : Nat), (k = 1 ∨ k = 2) → v < 100000 → (if isD T a then (if isD T (a + 1) then (if isD T (a + 2) then (1, a, lo) else rng lo hi a ((T.2 a - 48) * 10 + T.2 (a + 1) - 48) 2) else rng lo hi a (T.2 a - 48) 1) else (1, a, lo)) = rng lo hi a v k → ∀ f, wp (wpN 82 (d + 1) tX5_readNumber Q (f + 5)) (Runs 82 (d + 1) Q) (CallOk (d + 1)) Q (tb tX5_readNumber 61) [some (.ref 13), some (.int (nI lo)), some (.int (nI hi)), some (.int (nI v)), some (.int (nI k))] [] M L := by
      intro k v hk1 hv he f
      rw [he] at hq
      unfold rng at hq
      try simp (disch := omega) only [w_N, w_iconst, w_lcst, w_iload, w_lload, w_aload, m_i_s, m_l_s, m_a_s, w_istore, w_lstore, w_astore, w_iinc, w_iadd, w_isub, w_imul, w_iand, w_ior, w_ixor, w_ishl, w_ishr, w_iushr, w_idiv, w_irem, w_ineg, w_ladd, w_lsub, w_lmul, w_ldiv, w_lrem, w_lcmp, w_i2l, w_l2i, w_i2b, w_i2s, w_dupi, w_dupr, w_popi, w_popr, w_dup2, w_goto, w_cut, w_switch, sw_nil, sw_cons, w_iald, w_bald, w_zald, w_aald, w_iast, w_bast, w_zast, w_ireturn, w_zr0, w_zr1, w_lreturn, w_areturn, w_vreturn, w_cpy, w_mmax, w_mmin, w_sald, w_slen, sc_nil, sc_i, sc_r, sc_l, tl_s, tl_n, ls1, ls2, lk1, hd0, Int.reduceToNat, Nat.reduceAdd, Nat.reduceLeDiff, Nat.reduceMul, true_and, and_true, w_icmp_eq, w_icmp_ne, w_icmp_lt, w_icmp_ge, w_icmp_gt, w_icmp_le, w_if_eq, w_if_ne, w_if_lt, w_if_ge, w_if_gt, w_if_le, ki_0, ki_1, ki_2, li_2, ki_3, li_3, ki_4, li_4, ki_5, li_5, ki_6, li_6, ki_7, li_7, ki_8, li_8, ki_9, li_9, ki_10, li_10, ki_11, li_11, ki_12, li_12, ki_13, ki_14, li_14, ki_15, ki_16, li_16, ki_17, li_17, ki_18, li_18, ki_19, li_19, ki_20, li_20, ki_21, li_21, ki_22, ki_23, li_23, ki_24, li_24, ki_25, li_25, ki_26, li_26, ki_27, li_27, ki_28, li_28, ki_29, ki_30, li_30, ki_199, li_199, ki_200, ki_207, ki_214, ki_215, ki_216, li_216, ki_217, li_217, ki_218, li_218, ki_219, li_219, ki_220, li_220, ki_221, li_221, ki_222, ki_223, li_223, ki_224, li_224, ki_225, li_225, ki_226, li_226, ki_227, li_227, ki_228, li_228, ki_229, li_229, ki_230, ki_231, li_231, ki_232, ki_233, li_233, ki_234, li_234, ki_235, li_235, ki_236, li_236, ki_237, li_237, ki_238, li_238, ki_239, li_239, ki_240, li_240, ki_241, li_241, ki_242, li_242, ki_243, li_243, ki_244, li_244, ki_245, li_245, tX5_readNumber_61, kX5_readNumber_61, tX5_readNumber_79, kX5_readNumber_79, tX5_readNumber_89, kX5_readNumber_89, tX5_readNumber_96, kX5_readNumber_96, hX5_readNumber_14, w_g163, ci_0, ci_2, ci_1, w_p163, w_g162, w_p162, wc_X5_isFigureAt, ci_10, w_g160, ci_48, lg_0, lg_1, lg_2, lg_3, lg_4, ← zn0, nI_eq, nI_leI, nI_ltI, e2, nI_add]
      try simp only [cm_1, cm_1000000, cm_1000001, cm_1000002, cm_1000003, cm_1000010, cm_1000100, lm_1000001, lm_1000002]
      refine ⟨fun y => absurd y (by omega), fun _ => ⟨fun _ => ⟨fun w => ?_, fun w => ⟨fun u => ?_, fun u => ?_⟩⟩, fun y => absurd (by omega) y⟩⟩
      · rw [if_neg (fun x => absurd x.1 (by omega))] at hq; exact hq _ (h.ft 2) um13
      · rw [if_pos ⟨by omega, u⟩] at hq; exact hq _ (h.at' (a + k)) um13
      · rw [if_neg (fun x => absurd x.2 u)] at hq; exact hq _ (h.ft 2) um13
    have st : ∀ (k v : Nat), k ≤ 3 → v < 100000 → ((2 < k ∨ ¬ isD T (a + k)) → ∀ f, wp (wpN 82 (d + 1) tX5_readNumber Q (f + 5)) (Runs 82 (d + 1) Q) (CallOk (d + 1)) Q (tb tX5_readNumber 61) [some (.ref 13), some (.int (nI lo)), some (.int (nI hi)), some (.int (nI v)), some (.int (nI k))] [] M L) → (k ≤ 2 → isD T (a + k) → Runs nX5_readNumber (d + 1) Q 14 [some (.ref 13), some (.int (nI lo)), some (.int (nI hi)), some (.int (nI (v * 10 + T.2 (a + k) - 48))), some (.int (nI (k + 1)))] [] M L) → Runs nX5_readNumber (d + 1) Q 14 [some (.ref 13), some (.int (nI lo)), some (.int (nI hi)), some (.int (nI v)), some (.int (nI k))] [] M L := by
      intro k v hk hv he hn
      refine wpH_runs oX5_readNumber 60 14 oX5_readNumber_14 ?_
      try simp (disch := omega) only [w_N, w_iconst, w_lcst, w_iload, w_lload, w_aload, m_i_s, m_l_s, m_a_s, w_istore, w_lstore, w_astore, w_iinc, w_iadd, w_isub, w_imul, w_iand, w_ior, w_ixor, w_ishl, w_ishr, w_iushr, w_idiv, w_irem, w_ineg, w_ladd, w_lsub, w_lmul, w_ldiv, w_lrem, w_lcmp, w_i2l, w_l2i, w_i2b, w_i2s, w_dupi, w_dupr, w_popi, w_popr, w_dup2, w_goto, w_cut, w_switch, sw_nil, sw_cons, w_iald, w_bald, w_zald, w_aald, w_iast, w_bast, w_zast, w_ireturn, w_zr0, w_zr1, w_lreturn, w_areturn, w_vreturn, w_cpy, w_mmax, w_mmin, w_sald, w_slen, sc_nil, sc_i, sc_r, sc_l, tl_s, tl_n, ls1, ls2, lk1, hd0, Int.reduceToNat, Nat.reduceAdd, Nat.reduceLeDiff, Nat.reduceMul, true_and, and_true, w_icmp_eq, w_icmp_ne, w_icmp_lt, w_icmp_ge, w_icmp_gt, w_icmp_le, w_if_eq, w_if_ne, w_if_lt, w_if_ge, w_if_gt, w_if_le, ki_0, ki_1, ki_2, li_2, ki_3, li_3, ki_4, li_4, ki_5, li_5, ki_6, li_6, ki_7, li_7, ki_8, li_8, ki_9, li_9, ki_10, li_10, ki_11, li_11, ki_12, li_12, ki_13, ki_14, li_14, ki_15, ki_16, li_16, ki_17, li_17, ki_18, li_18, ki_19, li_19, ki_20, li_20, ki_21, li_21, ki_22, ki_23, li_23, ki_24, li_24, ki_25, li_25, ki_26, li_26, ki_27, li_27, ki_28, li_28, ki_29, ki_30, li_30, ki_199, li_199, ki_200, ki_207, ki_214, ki_215, ki_216, li_216, ki_217, li_217, ki_218, li_218, ki_219, li_219, ki_220, li_220, ki_221, li_221, ki_222, ki_223, li_223, ki_224, li_224, ki_225, li_225, ki_226, li_226, ki_227, li_227, ki_228, li_228, ki_229, li_229, ki_230, ki_231, li_231, ki_232, ki_233, li_233, ki_234, li_234, ki_235, li_235, ki_236, li_236, ki_237, li_237, ki_238, li_238, ki_239, li_239, ki_240, li_240, ki_241, li_241, ki_242, li_242, ki_243, li_243, ki_244, li_244, ki_245, li_245, hX5_readNumber_14, w_g163, ci_0, ci_2, ci_1, w_p163, w_g162, w_p162, wc_X5_isFigureAt, ci_10, w_g160, ci_48, lg_0, lg_1, lg_2, lg_3, lg_4, nI_ltI, e2, nI_add]
      try simp only [cm_1, cm_1000000, cm_1000001, cm_1000002, cm_1000003, cm_1000010, cm_1000100, lm_1000001, lm_1000002]
      refine ⟨fun y => he (Or.inl y) _, fun y => callOk (Nat.lt_succ_self d) (x_isFigureAt h.1 hT hB (by omega) ?_)⟩
      by_cases hd : isD T (a + k)
      · rw [if_pos hd]
        have eb := h.1.2 (a + k) hd.1
        try simp (disch := omega) only [w_N, w_iconst, w_lcst, w_iload, w_lload, w_aload, m_i_s, m_l_s, m_a_s, w_istore, w_lstore, w_astore, w_iinc, w_iadd, w_isub, w_imul, w_iand, w_ior, w_ixor, w_ishl, w_ishr, w_iushr, w_idiv, w_irem, w_ineg, w_ladd, w_lsub, w_lmul, w_ldiv, w_lrem, w_lcmp, w_i2l, w_l2i, w_i2b, w_i2s, w_dupi, w_dupr, w_popi, w_popr, w_dup2, w_goto, w_cut, w_switch, sw_nil, sw_cons, w_iald, w_bald, w_zald, w_aald, w_iast, w_bast, w_zast, w_ireturn, w_zr0, w_zr1, w_lreturn, w_areturn, w_vreturn, w_cpy, w_mmax, w_mmin, w_sald, w_slen, sc_nil, sc_i, sc_r, sc_l, tl_s, tl_n, ls1, ls2, lk1, hd0, Int.reduceToNat, Nat.reduceAdd, Nat.reduceLeDiff, Nat.reduceMul, true_and, and_true, w_icmp_eq, w_icmp_ne, w_icmp_lt, w_icmp_ge, w_icmp_gt, w_icmp_le, w_if_eq, w_if_ne, w_if_lt, w_if_ge, w_if_gt, w_if_le, ki_0, ki_1, ki_2, li_2, ki_3, li_3, ki_4, li_4, ki_5, li_5, ki_6, li_6, ki_7, li_7, ki_8, li_8, ki_9, li_9, ki_10, li_10, ki_11, li_11, ki_12, li_12, ki_13, ki_14, li_14, ki_15, ki_16, li_16, ki_17, li_17, ki_18, li_18, ki_19, li_19, ki_20, li_20, ki_21, li_21, ki_22, ki_23, li_23, ki_24, li_24, ki_25, li_25, ki_26, li_26, ki_27, li_27, ki_28, li_28, ki_29, ki_30, li_30, ki_199, li_199, ki_200, ki_207, ki_214, ki_215, ki_216, li_216, ki_217, li_217, ki_218, li_218, ki_219, li_219, ki_220, li_220, ki_221, li_221, ki_222, ki_223, li_223, ki_224, li_224, ki_225, li_225, ki_226, li_226, ki_227, li_227, ki_228, li_228, ki_229, li_229, ki_230, ki_231, li_231, ki_232, ki_233, li_233, ki_234, li_234, ki_235, li_235, ki_236, li_236, ki_237, li_237, ki_238, li_238, ki_239, li_239, ki_240, li_240, ki_241, li_241, ki_242, li_242, ki_243, li_243, ki_244, li_244, ki_245, li_245, hX5_readNumber_14, w_g163, ci_0, ci_2, ci_1, w_p163, w_g162, w_p162, wc_X5_isFigureAt, ci_10, w_g160, ci_48, lg_0, lg_1, lg_2, lg_3, lg_4, e2, nI_add, pk_mul]
        try simp only [cm_1, cm_1000000, cm_1000001, cm_1000002, cm_1000003, cm_1000010, cm_1000100, lm_1000001, lm_1000002]
        refine ⟨fun w => absurd w n10, fun _ => exj (by have := hd.1; omega) ?_⟩
        rw [eb, nI_add, pk_sub (by have := hd.2.1; omega)]
        exact hn (by omega) hd
      · rw [if_neg hd]
        try simp (disch := omega) only [w_N, w_iconst, w_lcst, w_iload, w_lload, w_aload, m_i_s, m_l_s, m_a_s, w_istore, w_lstore, w_astore, w_iinc, w_iadd, w_isub, w_imul, w_iand, w_ior, w_ixor, w_ishl, w_ishr, w_iushr, w_idiv, w_irem, w_ineg, w_ladd, w_lsub, w_lmul, w_ldiv, w_lrem, w_lcmp, w_i2l, w_l2i, w_i2b, w_i2s, w_dupi, w_dupr, w_popi, w_popr, w_dup2, w_goto, w_cut, w_switch, sw_nil, sw_cons, w_iald, w_bald, w_zald, w_aald, w_iast, w_bast, w_zast, w_ireturn, w_zr0, w_zr1, w_lreturn, w_areturn, w_vreturn, w_cpy, w_mmax, w_mmin, w_sald, w_slen, sc_nil, sc_i, sc_r, sc_l, tl_s, tl_n, ls1, ls2, lk1, hd0, Int.reduceToNat, Nat.reduceAdd, Nat.reduceLeDiff, Nat.reduceMul, true_and, and_true, w_icmp_eq, w_icmp_ne, w_icmp_lt, w_icmp_ge, w_icmp_gt, w_icmp_le, w_if_eq, w_if_ne, w_if_lt, w_if_ge, w_if_gt, w_if_le, ki_0, ki_1, ki_2, li_2, ki_3, li_3, ki_4, li_4, ki_5, li_5, ki_6, li_6, ki_7, li_7, ki_8, li_8, ki_9, li_9, ki_10, li_10, ki_11, li_11, ki_12, li_12, ki_13, ki_14, li_14, ki_15, ki_16, li_16, ki_17, li_17, ki_18, li_18, ki_19, li_19, ki_20, li_20, ki_21, li_21, ki_22, ki_23, li_23, ki_24, li_24, ki_25, li_25, ki_26, li_26, ki_27, li_27, ki_28, li_28, ki_29, ki_30, li_30, ki_199, li_199, ki_200, ki_207, ki_214, ki_215, ki_216, li_216, ki_217, li_217, ki_218, li_218, ki_219, li_219, ki_220, li_220, ki_221, li_221, ki_222, ki_223, li_223, ki_224, li_224, ki_225, li_225, ki_226, li_226, ki_227, li_227, ki_228, li_228, ki_229, li_229, ki_230, ki_231, li_231, ki_232, ki_233, li_233, ki_234, li_234, ki_235, li_235, ki_236, li_236, ki_237, li_237, ki_238, li_238, ki_239, li_239, ki_240, li_240, ki_241, li_241, ki_242, li_242, ki_243, li_243, ki_244, li_244, ki_245, li_245, hX5_readNumber_14, w_g163, ci_0, ci_2, ci_1, w_p163, w_g162, w_p162, wc_X5_isFigureAt, ci_10, w_g160, ci_48, lg_0, lg_1, lg_2, lg_3, lg_4]
        try simp only [cm_1, cm_1000000, cm_1000001, cm_1000002, cm_1000003, cm_1000010, cm_1000100, lm_1000001, lm_1000002]
        exact ⟨fun _ => he (Or.inr hd) _, fun w => absurd zn0 w⟩
    have ea : 0 * 10 + T.2 (a + 0) - 48 = T.2 a - 48 := by rw [Nat.add_zero, Nat.zero_mul, Nat.zero_add]
    refine st 0 0 (by decide) (by decide) (fun hc f => bad 0 0 (Or.inl rfl) (by decide) (if_neg fun w => hc.elim (fun y => absurd y (by decide)) fun y => y w) f) fun _ hd0 => ?_
    rw [ea]
    have b0 := hB a hd0.1
    refine st 1 (T.2 a - 48) (by decide) (by omega) (fun hc f => good 1 (T.2 a - 48) (Or.inl rfl) (by omega) (by rw [if_pos (show isD T a from hd0), if_neg fun w => hc.elim (fun y => absurd y (by decide)) fun y => y w]) f) fun _ hd1 => ?_
    have b1 := hB (a + 1) hd1.1
    refine st 2 ((T.2 a - 48) * 10 + T.2 (a + 1) - 48) (by decide) (by omega) (fun hc f => good 2 ((T.2 a - 48) * 10 + T.2 (a + 1) - 48) (Or.inr rfl) (by omega) (by rw [if_pos (show isD T a from hd0), if_pos hd1, if_neg fun w => hc.elim (fun y => absurd y (by decide)) fun y => y w]) f) fun _ hd2 => ?_
    have b2 := hB (a + 2) hd2.1
    exact st 3 (((T.2 a - 48) * 10 + T.2 (a + 1) - 48) * 10 + T.2 (a + 2) - 48) (by decide) (by omega) (fun hc f => bad 3 _ (Or.inr (by decide)) (by decide) (by rw [if_pos (show isD T a from hd0), if_pos hd1, if_pos hd2]) f) fun y => absurd y (by decide)
  · rw [if_neg z] at hq
    exact hq M h frR.rf
end
