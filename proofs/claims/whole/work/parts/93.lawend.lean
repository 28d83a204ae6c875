theorem mC_208 : mC 208 = code ∧ mL 208 = 4 ∧ mR 208 = some .boolean ∧ cn (mO 208) = R_law := ⟨rfl, rfl, rfl, rfl⟩
theorem rng16 {Ls : Nat} (hLs : Ls ≤ 3072) {M : Mm} {L : Ml} {S : Sx} (hS : okS S) (hR : RC M S) (hR2 : RR M S) (hM : M 1000 0 = nI Ls) : Runs 208 21 (fun r _ _ => r = some (.int 1)) 16 [some (.ref 1000), some (.ref 0), some (.ref 232), none] [] M L := by
  refine blk (J := Runs 208 21 _) (fun _ _ _ _ _ h => h) _ _ _ _ _ _ oL_law_16 ?_
  simp (disch := omega) only [w_N, w_iconst, w_lcst, w_iload, w_lload, w_aload, m_i_s, m_l_s, m_a_s, w_istore, w_lstore, w_astore, w_iinc, w_iadd, w_isub, w_imul, w_iand, w_ior, w_ixor, w_ishl, w_ishr, w_iushr, w_idiv, w_irem, w_ineg, w_ladd, w_lsub, w_lmul, w_ldiv, w_lrem, w_lcmp, w_i2l, w_l2i, w_i2b, w_i2s, w_dupi, w_dupr, w_popi, w_popr, w_dup2, w_goto, w_cut, w_switch, sw_nil, sw_cons, w_iald, w_bald, w_zald, w_aald, w_iast, w_bast, w_zast, w_ireturn, w_zr0, w_zr1, w_lreturn, w_areturn, w_vreturn, w_cpy, w_mmax, w_mmin, w_sald, w_slen, sc_nil, sc_i, sc_r, sc_l, tl_s, tl_n, ls1, ls2, lk1, hd0, Int.reduceToNat, Nat.reduceAdd, Nat.reduceLeDiff, Nat.reduceMul, true_and, and_true, w_icmp_eq, w_icmp_ne, w_icmp_lt, w_icmp_ge, w_icmp_gt, w_icmp_le, w_if_eq, w_if_ne, w_if_lt, w_if_ge, w_if_gt, w_if_le, ki_0, ki_1, ki_2, li_2, ki_3, li_3, ki_4, li_4, ki_5, li_5, ki_6, li_6, ki_7, li_7, ki_8, li_8, ki_9, li_9, ki_10, li_10, ki_11, li_11, ki_12, li_12, ki_13, ki_14, li_14, ki_15, ki_16, li_16, ki_17, li_17, ki_18, li_18, ki_19, li_19, ki_20, li_20, ki_21, li_21, ki_22, ki_23, li_23, ki_24, li_24, ki_25, li_25, ki_26, li_26, ki_27, li_27, ki_28, li_28, ki_29, ki_30, li_30, ki_199, li_199, ki_200, ki_207, ki_214, ki_215, ki_216, li_216, ki_217, li_217, ki_218, li_218, ki_219, li_219, ki_220, li_220, ki_221, li_221, ki_222, ki_223, li_223, ki_224, li_224, ki_225, li_225, ki_226, li_226, ki_227, li_227, ki_228, li_228, ki_229, li_229, ki_230, ki_231, li_231, ki_232, ki_233, li_233, ki_234, li_234, ki_235, li_235, ki_236, li_236, ki_237, li_237, ki_238, li_238, ki_239, li_239, ki_240, li_240, ki_241, li_241, ki_242, li_242, ki_243, li_243, ki_244, li_244, ki_245, li_245, ci_0, ci_1, ci_2, ci_3, wc_X6_row, wc_X7_row, wc_X6_set, wc_X7_set, ci_4, ci_5, wc_X6_copy, wc_X7_copy, wc_X6_drop, wc_X7_drop, wc_X6_feed, wc_X7_feed, wc_X6_circle, wc_X7_circle, wc_X6_fault, wc_X7_fault, wc_X6_undo, wc_X7_undo, wc_X6_ticks, wc_X7_ticks, wc_X6_turnHead, wc_X7_turnHead, wc_X6_role, wc_X7_role, wc_X6_proof, wc_X7_proof, wc_X6_rise, wc_X7_rise, wc_X6_player, wc_X7_player, wc_X6_stand, wc_X7_stand, wc_X6_ahead, wc_X7_ahead, wc_X6_toll, wc_X7_toll, wc_X6_when, wc_X7_when, wc_X6_out, wc_X7_out, wc_X6_meet, wc_X7_meet, wc_X6_bestRole, wc_X7_bestRole, wc_X6_glance, wc_X7_glance, wc_X6_pass, wc_X7_pass, wc_X6_sets, wc_X7_sets, wc_X6_share, wc_X7_share, wc_X6_byTurns, wc_X7_byTurns, wc_X6_who, wc_X7_who, wc_X6_sleep, wc_X7_sleep, wc_X6_drawn, wc_X7_drawn, wc_X6_image, wc_X7_image, wc_X6_restore, wc_X7_restore, wc_X6_kind, wc_X7_kind, wc_X6_as, wc_X7_as, wc_X6_ask, wc_X7_ask, wc_X6_trace, wc_X7_trace, wc_X6_count, wc_X7_count, wc_X6_status, wc_X7_status, ci_6, ci_63, ci_7, ci_8, ci_9, ci_10, ci_11, ci_12, ci_13, ci_14, ci_15, ci_16, ci_17, ci_18, ci_19, ci_20, ci_21, ci_22, ci_23, ci_24, ci_25, ci_26, ci_27, ci_28, ci_29, ci_30, ci_31, ci_32, ci_33, ci_34, ci_35, ci_36, lg_0, lg_1, lg_2, lg_3, kL_law_16]
  exact lw_loop hLs (Ls + 1) 0 M L S (by omega) (by omega) hS hR hR2 hM
/-- from the world as it stands behind both constructors to the law's end -/
theorem law_tail {p : Program} {e : Env} {s : State} {m : MethodId} {below : List Frame} {meth : Method} {c : Code} (l : Launch) {b Ls : Nat} {xs : Nat → Int32} (hL : Ls ≤ 3072) (C0 : lw_At p s m meth c b Ls xs)
    {w : Wc} {M : Mm} {L : Ml} {S : Sx} (hw : wOk w) (hb : w.1 1000 = b) (hK : va_K w.2.1 vwCl (tyW w) s) {H : Heap} {locs : List Loc} (hP : va_P w.2.1 vwCl (wsM w M L) H) (hS : va_S (frA w) s.heap H locs) (hnew : ∀ i, i < nIds → s.heap.size ≤ w.1 i)
    (hSo : okS S) (hR : RC M S) (hR2 : RR M S) (hM : M 1000 0 = nI Ls) (hxs : ∀ j, j < Ls → M 1000 (j + 1) = xs j) {cells slots : Nat} (hc : cells ≤ 600000) (hs : slots ≤ 7302250) {arr : Array Slot} (hl : lv_has arr 4 [(0, .ref b), (1, .ref (w.1 0)), (2, .ref (w.1 232))]) :
    W p l e room_1 s m #[Value.ref b] below meth c H locs cells slots (lw_Z below #[Value.ref b] s) (F0 m 16 arr []) := by
  obtain ⟨hx, hcb, hr, hml, hown, hts, hX, hbl, hlocks, hgv⟩ := C0
  obtain ⟨m1, m2, m3, m4⟩ := mC_208
  have hbA : ¬ frA w b := fun q => by
    obtain ⟨i, hi, e⟩ := q
    have := hnew i hi
    omega
  refine rng16 (L := L) hL hSo hR hR2 hM w p l e room_1 s m #[Value.ref b] below meth c H locs cells slots _ arr ?_ ⟨hc, hs⟩ ⟨hP, Ls, xs, ?_, hL, hM, hxs⟩ hS ?_ ?_
  · refine ⟨hx, by rw [m1]; exact hcb, by rw [m2]; exact hml, by rw [m4]; exact hown, fun q hq => hts q (List.mem_filter.mp hq).1, hK, fun r hr => va_Nw.of rfl (hts (nW r) (List.mem_of_getElem? (nRows_ok r hr))), hw, ⟨by rw [hb]; exact hbl, by rw [hb]; exact hbA⟩, by decide, by decide⟩
  · rw [hb]
    exact hX.kept (hS.2.1 b hbl hbA)
  · rw [m2]
    refine lv_mono hl fun q hq => ?_
    have : lsA w 0 [some (.ref 1000), some (.ref 0), some (.ref 232), none] = [(0, .ref (w.1 1000)), (1, .ref (w.1 0)), (2, .ref (w.1 232))] := rfl
    rw [this, hb] at hq
    exact hq
  · intro r M' L' H' locs' pc arr' hq hh hS' hat
    subst hq
    have hd : decode code pc = .ok (.ireturn, 1) := by rw [← m1]; exact hat.1
    refine va_forget (fun q hq => ?_) (W.widen (k := 600000) (n := 7302250) hc hs ?_)
    · obtain ⟨i, hi, e⟩ := hS'.2.2 q hq
      rw [e]; exact hnew i hi
    · exact lw_ret hx hcb hr hlocks hd
