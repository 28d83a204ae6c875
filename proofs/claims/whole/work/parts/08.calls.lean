/-! switches -/
theorem ofInt_toInt {v : Int} (h1 : -1000 ≤ v) (h2 : v ≤ 1000) : (Int32.ofInt v).toInt = v := by
  rw [Int32.toInt_ofInt]
  have hz : (Int32.size : Int) = 4294967296 := rfl
  exact Int.bmod_eq_of_le (by omega) (by omega)
theorem sw_none {J : Nat → Prop} {x : Int32} {d : Int} : ∀ {ps : List (Int × Int)}, (∀ q ∈ ps, ¬ x = Int32.ofInt q.1) → sw J x d ps → J d.toNat
  | [], _, h => h
  | (v, t) :: ps, hn, h => sw_none (ps := ps) (fun q hq => hn q (List.mem_cons_of_mem _ hq)) (h.2 (by rw [cI_e]; exact hn (v, t) List.mem_cons_self))
theorem tsw_len {pc : Nat} : ∀ {os : List Int} {ps : List (Int × Int)} {lo : Int}, tsw pc lo os ps = true → ∀ q ∈ ps, lo ≤ q.1 ∧ q.1 < lo + os.length ∧ -1000 ≤ q.1 ∧ q.1 ≤ 1000
  | [], [], _, _, q, hq => by cases hq
  | [], _ :: _, _, h, _, _ => by cases h
  | _ :: _, [], _, h, _, _ => by cases h
  | o :: os, (v, t) :: ps, lo, h, q, hq => by
    unfold tsw at h
    rw [Bool.and_eq_true] at h
    obtain ⟨h1, h2⟩ := h
    obtain ⟨e1, e2, e3, e4, e5⟩ := of_decide_eq_true h1
    rcases List.mem_cons.mp hq with rfl | hq
    · exact ⟨by show lo ≤ v; omega, by show v < lo + (os.length + 1 : Nat); omega, e4, e5⟩
    · have := tsw_len h2 q hq
      exact ⟨by omega, by have := this.2.1; show q.1 < lo + (os.length + 1 : Nat); omega, this.2.2⟩
theorem tsw_hit {J : Nat → Prop} {pc : Nat} {x : Int32} {d : Int} : ∀ {os : List Int} {ps : List (Int × Int)} {lo : Int} (i : Nat) {f : Int}, tsw pc lo os ps = true → os[i]? = some f → x.toInt = lo + i → sw J x d ps → ∃ t : Nat, (pc : Int) + f = (t : Int) ∧ J t
  | [], [], _, i, f, _, hf, _, _ => by simp at hf
  | [], _ :: _, _, _, _, h, _, _, _ => by cases h
  | _ :: _, [], _, _, _, h, _, _, _ => by cases h
  | o :: os, (v, t) :: ps, lo, i, f, h, hf, hx, hs => by
    unfold tsw at h
    rw [Bool.and_eq_true] at h
    obtain ⟨h1, h2⟩ := h
    obtain ⟨e1, e2, e3, e4, e5⟩ := of_decide_eq_true h1
    have ev := ofInt_toInt e4 e5
    cases i with
    | zero =>
      cases hf
      exact ⟨t.toNat, by omega, hs.1 (by rw [cI_e]; exact Int32.toInt_inj.mp (by rw [ev]; omega))⟩
    | succ i =>
      refine tsw_hit (lo := lo + 1) i h2 hf (by omega) (hs.2 fun q => ?_)
      rw [q, cI_e, ev] at hx
      omega
theorem lsw_hit {J : Nat → Prop} {pc : Nat} {x : Int32} {d d' : Int} (hd : (pc : Int) + d' = d ∧ 0 ≤ d) : ∀ {os : List (Int × Int)} {ps : List (Int × Int)}, lsw pc os ps = true → sw J x d ps → ∃ t : Nat, (pc : Int) + Op.lookupswitch.offset os d' x.toInt = (t : Int) ∧ J t
  | [], [], _, hs => ⟨d.toNat, by rw [Op.lookupswitch.offset_nil]; omega, hs⟩
  | [], _ :: _, h, _ => by cases h
  | _ :: _, [], h, _ => by cases h
  | (u, o) :: os, (v, t) :: ps, h, hs => by
    unfold lsw at h
    rw [Bool.and_eq_true] at h
    obtain ⟨h1, h2⟩ := h
    obtain ⟨e1, e2, e3, e4, e5⟩ := of_decide_eq_true h1
    have ev := ofInt_toInt e4 e5
    by_cases hx : x = Int32.ofInt v
    · refine ⟨t.toNat, ?_, hs.1 (by rw [cI_e]; exact hx)⟩
      rw [Op.lookupswitch.offset_cons, if_pos (by rw [hx, ev, e1])]
      omega
    · obtain ⟨t', g1, g2⟩ := lsw_hit hd h2 (hs.2 (by rw [cI_e]; exact hx))
      refine ⟨t', ?_, g2⟩
      rw [Op.lookupswitch.offset_cons, if_neg]
      · exact g1
      · intro q
        refine hx (Int32.toInt_inj.mp ?_)
        rw [ev, ← e1]
        exact q.symm
section
variable {n d pc : Nat} {Q : Qt} {ls : Lc} {st : List Value} {M : Mm} {L : Ml}
theorem r_jump {ins : Instr} {z t : Nat} {x : Int32} (hd : ∀ (p : Program) (l : Launch) (e : Env) (R : Room) (s : State) (m : MethodId) (args : Array Value) (below : List Frame) (meth : Method) (c : Code) (H : Heap) (locs : List Loc) (cells slots : Nat) (Z : State → Prop) (arr : Array Slot) (rest : List Value), p.tables.exec = Jvm.exec → c.code = mC n → W p l e R s m args below meth c H locs cells slots Z (F0 m t arr rest) → W p l e R s m args below meth c H locs cells slots Z (F0 m pc arr (.int x :: rest))) (k : Runs n d Q t ls st M L) : Runs n d Q pc ls (.int x :: st) M L := by
  intro w p l e R s m args below meth c H locs cells slots Z arr a hc hp hs hl hr
  exact hd p l e R s m args below meth c H locs cells slots Z arr _ a.1 a.2.1 (k w p l e R s m args below meth c H locs cells slots Z arr a hc hp hs hl hr)
theorem r_table {z : Nat} {x : Int32} {d' lo hi dd : Int} {os : Array Int} {ps : List (Int × Int)} (hd : decode (mC n) pc = .ok (.tableswitch d' lo hi os, z)) (h1 : (pc : Int) + d' = dd ∧ 0 ≤ dd ∧ hi = lo + os.toList.length - 1) (h2 : tsw pc lo os.toList ps = true) (k : sw (fun t => Runs n d Q t ls st M L) x dd ps) : Runs n d Q pc ls (.int x :: st) M L := by
  by_cases hx : x.toInt < lo ∨ hi < x.toInt
  · have k0 : Runs n d Q dd.toNat ls st M L := by
      refine sw_none (J := fun t => Runs n d Q t ls st M L) (ps := ps) (fun q hq e => ?_) k
      obtain ⟨g1, g2, g3, g4⟩ := tsw_len h2 q hq
      rw [e, ofInt_toInt g3 g4] at hx
      omega
    exact r_jump (ins := .nop) (z := 0) (fun p l e R s m args below meth c H locs cells slots Z arr rest hx0 hb kk => lv_tableOut hx0 hb hd hx (by omega) kk) k0
  · have hx1 : ¬ x.toInt < lo := fun q => hx (Or.inl q)
    have hx2 : ¬ hi < x.toInt := fun q => hx (Or.inr q)
    have hi : (x.toInt - lo).toNat < os.toList.length := by omega
    obtain ⟨t, g1, g2⟩ := tsw_hit (J := fun t => Runs n d Q t ls st M L) (x := x) (d := dd) (x.toInt - lo).toNat h2 (List.getElem?_eq_getElem hi) (by omega) k
    exact r_jump (ins := .nop) (z := 0) (fun p l e R s m args below meth c H locs cells slots Z arr rest hx0 hb kk => lv_tableIn hx0 hb hd hx1 hx2 (by rw [← Array.getElem?_toList]; exact List.getElem?_eq_getElem hi) g1 kk) g2
theorem r_look {z : Nat} {x : Int32} {d' dd : Int} {os : Array (Int × Int)} {ps : List (Int × Int)} (hd : decode (mC n) pc = .ok (.lookupswitch d' os, z)) (h1 : (pc : Int) + d' = dd ∧ 0 ≤ dd) (h0 : (os.toList.zip (os.toList.drop 1)).all (fun (a, next) => a.1 < next.1) = true) (h2 : lsw pc os.toList ps = true) (k : sw (fun t => Runs n d Q t ls st M L) x dd ps) : Runs n d Q pc ls (.int x :: st) M L := by
  obtain ⟨t, g1, g2⟩ := lsw_hit (J := fun t => Runs n d Q t ls st M L) h1 h2 k
  exact r_jump (ins := .nop) (z := 0) (fun p l e R s m args below meth c H locs cells slots Z arr rest hx0 hb kk => lv_lookup hx0 hb hd h0 rfl g1 kk) g2
/-! the end of a method -/
theorem r_ret {r : Option Value} (hq : Q r M L) (hr : rAt n pc r) : Runs n d Q pc ls r.toList M L := by
  intro w p l e R s m args below meth c H locs cells slots Z arr a hc hp hs hl hr0
  exact hr0 r M L H locs pc arr hq hp hs hr
/-! calls -/
theorem sc_sum (w : Wc) : ∀ st : List Value, ((st.map (up w)).map fun v => v.category).sum = sc st
  | [] => rfl
  | v :: st => by
    rw [List.map_cons, List.map_cons, List.sum_cons, sc_sum w st, up_cat]
    rfl
theorem gPc_blind {w : Wc} {as : List Value} {M : Mm} {L : Ml} : FrameBlind (gPc w as M L) := by
  intro b U g mk q
  obtain ⟨q1, ⟨q2, Ls, xs, q3, q4⟩, q5, q6, q7⟩ := q
  exact ⟨q1, ⟨q2, Ls, xs, va_X.moved (u := U) (U := U.calling g mk b) (Vm.Alike.refl U.vm) q3, q4⟩, va_K.moved (u := U) (U := U.calling g mk b) (Vm.Alike.refl U.vm) q5, fun r hr => va_Nw.same (u := U) (U := U.calling g mk b) rfl rfl (q6 r hr), q7⟩
theorem gPc_at {n d : Nat} {w : Wc} {p : Program} {R : Room} {s : State} {m : MethodId} {args : Array Value} {c : Code} {as : List Value} {M : Mm} {L : Ml} {H : Heap} (a : Act n d w p R s m args c) (hp : hpOk w M L s H) : ∀ U : State, U.heap = H → s.WarmedH U.vm → gPc w as M L (as.map (up w)).toArray U := by
  intro U hU hW
  obtain ⟨hp1, Ls, xs, hp2, hp3⟩ := hp
  refine ⟨rfl, ⟨by rw [hU]; exact hp1, Ls, xs, by rw [hU]; exact hp2.moved hW.alike, hp3⟩, va_K.moved hW.alike a.2.2.2.2.2.1, fun r hr => va_Nw.warmM hW (a.2.2.2.2.2.2.1 r hr), a.2.2.2.2.2.2.2.2.1.2⟩
/-- behind a call -/
theorem r_back {w : Wc} {p : Program} {l : Launch} {e : Env} {R : Room} {s : State} {m : MethodId} {args : Array Value} {below : List Frame} {meth : Method} {c : Code} {H : Heap} {locs : List Loc} {cells slots : Nat} {Z : State → Prop} {arr : Array Slot} {g : JFrame} {aa : Array Value} {rest : List Value}
    (a : Act n d w p R s m args c) (hc : cells ≤ R.cells ∧ slots ≤ R.slots) (hs : va_S (frA w) s.heap H locs) (hl : lv_has arr (mL n) (lsA w 0 ls)) (hr : RetOK n w p l e R s m args below meth c cells slots Q Z)
    (hg : g.pc = pc) (hfr : ∀ q, F0 m pc arr q = { g with stack := q })
    (run : va_Run p l e R s m args below meth c H locs cells slots 0 0 g (rest.map (up w)) (gQc w (fun r M' L' => Runs n d Q (pc + 3) ls (r.toList ++ rest) M' L') aa) (frA w)) : W p l e R s m args below meth c H locs cells slots Z g := by
  intro T hT X
  obtain ⟨v, st₀, t, T', L', h0, X', hL, e1, e2, ⟨⟨r, M', L2, hv, hq, hp'⟩, hz, hk⟩, step⟩ := run T hT X
  cases hv
  rw [h0] at hz hk
  have hal : s.vm.Alike t.vm := by rw [← e2]; exact X'.warmed.alike
  have hpo : hpOk w M' L2 s T'.heap := by
    obtain ⟨p1, Ls, xs, p2, p3⟩ := hp'
    exact ⟨by rw [e1]; exact p1, Ls, xs, by rw [e1]; exact p2.moved hal.symm, p3⟩
  have hS1 : va_S (frA w) s.heap T'.heap (locs ++ L') := ⟨Nat.le_trans hs.1 (by rw [e1]; exact hz), fun q h1 h2 => by rw [e1, hk q (Nat.lt_of_lt_of_le h1 hs.1) h2]; exact hs.2.1 q h1 h2, fun q hq => by
      rcases List.mem_append.mp hq with h | h
      · exact hs.2.2 q h
      · exact hL q h⟩
  have K := hq w p l e R s m args below meth c T'.heap (locs ++ L') cells slots Z arr a hc hpo hS1 hl hr
  obtain ⟨t2, a1, b1⟩ := K T' rfl X'
  refine ⟨t2, step t2 ?_, b1⟩
  have e9 : ({ g with pc := g.pc + 3, stack := (r.map (up w)).toList ++ rest.map (up w) } : JFrame) = F0 m (pc + 3) arr ((r.toList ++ rest).map (up w)) := by
    have := hfr ((r.toList ++ rest).map (up w))
    rw [hg]
    rw [show (r.map (up w)).toList ++ rest.map (up w) = (r.toList ++ rest).map (up w) by rw [List.map_append]; cases r <;> rfl]
    have h3 := congrArg (fun f : JFrame => ({ f with pc := pc + 3 } : JFrame)) this
    exact h3.symm
  rw [e9]
  exact a1

/-- what the tables say of a method that is called -/
theorem e_facts {mm : Nat} (he : eRows.any (fun r => r.1 == mm) = true) : Cond.code (mN mm) (mC mm) (mL mm) (mR mm) ∈ tg ∧ Cond.initialized (mN mm).cls ∈ tg ∧ ((mN mm).cls ≠ "java/lang/invoke/MethodHandle" ∧ (mN mm).cls ≠ "java/lang/invoke/VarHandle") ∧ mL mm ≤ 40 ∧ cn (mO mm) = (mN mm).cls ∧ (mS mm = 1 → Cond.static (mN mm) ∈ tg) ∧ (mS mm = 0 → Cond.instanceMethod (mN mm) ∈ tg ∧ Cond.selects (mN mm).cls (mN mm) (mN mm) ∈ tg ∧ mO mm < 8) ∧ ∀ sig, parseMethodDescriptor (mN mm).desc = some sig → mP mm = sig.parameters.length := by
  obtain ⟨r, hr, h⟩ := List.any_eq_true.mp he
  have e : r.1 = mm := by simpa using h
  subst e
  refine ⟨List.mem_filter.mpr ⟨eRows_code r hr, rfl⟩, tg_in (eRows_i1 r hr) rfl, eRows_i2 r hr, eRows_i4 r hr, eRows_i5 r hr, fun h => tg_in (eRows_stat r hr h) rfl, fun h => ⟨tg_in (eRows_inst r hr h).1 rfl, tg_in (eRows_inst r hr h).2.1 rfl, (eRows_inst r hr h).2.2⟩, fun sig hs => ?_⟩
  have := eRows_par r hr
  rw [hs] at this
  exact (Option.some.inj this).symm
theorem tg_warm {args : Array Value} {s : State} (hts : ∀ q ∈ tg, q.before args s = true) : ∀ q ∈ tg, ∀ (a' : Array Value) (U : State), s.WarmedH U.vm → q.before a' U = true := fun q hq a' U hW => word_at hW (good_of_word (List.mem_filter.mp hq).2) (hts q hq)
theorem mW_warm {mm : Nat} {args : Array Value} {s : State} (hts : ∀ q ∈ tg, q.before args s = true) (hcode : Cond.code (mN mm) (mC mm) (mL mm) (mR mm) ∈ tg) : ∀ q ∈ mW mm, ∀ (a' : Array Value) (U : State), s.WarmedH U.vm → q.before a' U = true := by
  intro q hq
  rcases List.mem_cons.mp hq with rfl | hq
  · exact tg_warm hts _ hcode
  · exact tg_warm hts _ hq
theorem r_callV {x mm b : Nat} {As rest : List Value} (hd : decode (mC n) pc = .ok (.invokevirtual x, 3)) (hS : mS mm = 0) (hlink : Cond.methodLink (cn (mO n)) x (mN mm) ∈ tg ∨ ∃ r ∈ nRows, nW r = .methodLinkNest (cn (mO n)) x (mN mm) "WinkCircle") (he : eRows.any (fun r => r.1 == mm) = true) (hkb : kd b = mO mm) (hlen : As.length = mP mm) (hst : st = As.reverse ++ .ref b :: rest) (hsc : sc rest ≤ 8)
    (hcall : CallOk d mm (.ref b :: As) M L (fun r M' L' => Runs n d Q (pc + 3) ls (r.toList ++ rest) M' L')) : Runs n d Q pc ls st M L := by
  intro w p l e R s m args below meth c H locs cells slots Z arr a hc hp hs hl hr
  obtain ⟨d', hd', hg⟩ := hcall
  obtain ⟨f1, f2, f3, f4, f5, -, f7, f8⟩ := e_facts he
  obtain ⟨f7, f9, f10⟩ := f7 hS
  obtain ⟨C, g1, g2, -, -, -⟩ := cls_ok (mO mm) f10
  have hts := a.2.2.2.2.1
  have hfr := a.2.2.2.2.2.2.2.2.2.1
  have hlo := a.2.2.2.2.2.2.2.2.2.2
  have hrecv := va_recv a.2.2.2.2.2.1 hp.1 g1 (q0 := b) (a := w.1 b) (by rw [ws_get w M L (kd_lt (by omega)), cel_obj w M L hkb f10])
  rw [show ((C, vwT (mO mm), nf (mO mm)) : vw_C).1 = (mN mm).cls from g2.trans f5] at hrecv
  have z1 : d' + 1 + 1 ≤ R.frames := by omega
  have z2 : 8 + (mL mm + 11) + 64 * (d' + 1) ≤ R.locals := by omega
  have hstk : (F0 m pc arr (st.map (up w))).stack = (As.map (up w)).reverse ++ .ref (w.1 b) :: rest.map (up w) := by
    rw [hst]
    show (As.reverse ++ .ref b :: rest).map (up w) = _
    rw [List.map_append, List.map_reverse]
    rfl
  rcases hlink with hlink | hlink
  · exact r_back a hc hs hl hr rfl (fun q => rfl) (va_runV (As := As.map (up w)) (b := w.1 b) (C := (mN mm).cls) ⟨a.1, a.2.1, a.2.2.1, a.2.2.2.1, hts⟩ (hg l w a.2.2.2.2.2.2.2.1) ⟨⟨rfl, rfl, z1, z2, mW_warm hts f1, List.mem_cons_self, hts _ f1, hts _ f2, f3, f8, hts _ hlink⟩, hts _ f7, hts _ f9⟩ ⟨gPc_blind, hrecv, gPc_at a hp⟩ rfl (by rw [List.length_map]; exact hlen) hl.1 hstk (lv_room (by rw [sc_sum]; exact hsc)) hd ⟨hc.1, hc.2⟩)
  · obtain ⟨r0, hr0, hlink⟩ := hlink
    have hN := a.2.2.2.2.2.2.1 r0 hr0
    rw [hlink] at hN
    exact r_back a hc hs hl hr rfl (fun q => rfl) (va_runVN (As := As.map (up w)) (b := w.1 b) (C := (mN mm).cls) ⟨a.1, a.2.1, a.2.2.1, a.2.2.2.1, hts⟩ (hg l w a.2.2.2.2.2.2.2.1) ⟨⟨⟨rfl, rfl, z1, z2, mW_warm hts f1, List.mem_cons_self⟩, hts _ f1, hts _ f2, f3, f8, va_Nw.use rfl hN⟩, hts _ f7, hts _ f9⟩ ⟨gPc_blind, hrecv, gPc_at a hp⟩ rfl (by rw [List.length_map]; exact hlen) hl.1 hstk (lv_room (by rw [sc_sum]; exact hsc)) hd ⟨hc.1, hc.2⟩)
theorem r_callS {x mm : Nat} {As rest : List Value} (hd : decode (mC n) pc = .ok (.invokestatic x, 3)) (hS : mS mm = 1) (hlink : Cond.methodLink (cn (mO n)) x (mN mm) ∈ tg ∨ ∃ r ∈ nRows, nW r = .methodLinkNest (cn (mO n)) x (mN mm) "WinkCircle") (he : eRows.any (fun r => r.1 == mm) = true) (hlen : As.length = mP mm) (hst : st = As.reverse ++ rest) (hsc : sc rest ≤ 8)
    (hcall : CallOk d mm As M L (fun r M' L' => Runs n d Q (pc + 3) ls (r.toList ++ rest) M' L')) : Runs n d Q pc ls st M L := by
  intro w p l e R s m args below meth c H locs cells slots Z arr a hc hp hs hl hr
  obtain ⟨d', hd', hg⟩ := hcall
  obtain ⟨f1, f2, f3, f4, f5, f6, -, f8⟩ := e_facts he
  have hts := a.2.2.2.2.1
  have hfr := a.2.2.2.2.2.2.2.2.2.1
  have hlo := a.2.2.2.2.2.2.2.2.2.2
  have hstk : (F0 m pc arr (st.map (up w))).stack = (As.map (up w)).reverse ++ rest.map (up w) := by
    rw [hst]
    show (As.reverse ++ rest).map (up w) = _
    rw [List.map_append, List.map_reverse]
  have z1 : d' + 1 + 1 ≤ R.frames := by omega
  have z2 : 8 + (mL mm + 11) + 64 * (d' + 1) ≤ R.locals := by omega
  rcases hlink with hlink | hlink
  · exact r_back a hc hs hl hr rfl (fun q => rfl) (va_runS (As := As.map (up w)) ⟨a.1, a.2.1, a.2.2.1, a.2.2.2.1, hts⟩ (hg l w a.2.2.2.2.2.2.2.1) ⟨⟨rfl, rfl, z1, z2, mW_warm hts f1, List.mem_cons_self, hts _ f1, hts _ f2, f3, f8, hts _ hlink⟩, hts _ (f6 hS)⟩ ⟨gPc_blind, gPc_at a hp⟩ rfl (by rw [List.length_map]; exact hlen) hl.1 hstk (lv_room (by rw [sc_sum]; exact hsc)) hd ⟨hc.1, hc.2⟩)
  · obtain ⟨r0, hr0, hlink⟩ := hlink
    have hN := a.2.2.2.2.2.2.1 r0 hr0
    rw [hlink] at hN
    exact r_back a hc hs hl hr rfl (fun q => rfl) (va_runSN (As := As.map (up w)) ⟨a.1, a.2.1, a.2.2.1, a.2.2.2.1, hts⟩ (hg l w a.2.2.2.2.2.2.2.1) ⟨⟨⟨rfl, rfl, z1, z2, mW_warm hts f1, List.mem_cons_self⟩, hts _ f1, hts _ f2, f3, f8, va_Nw.use rfl hN⟩, hts _ (f6 hS), trivial⟩ ⟨gPc_blind, gPc_at a hp⟩ rfl (by rw [List.length_map]; exact hlen) hl.1 hstk (lv_room (by rw [sc_sum]; exact hsc)) hd ⟨hc.1, hc.2⟩)
end
