noncomputable def lnF (i : Nat) : Nat → Int32 := fun j => if j < i then c_m1 else 0
section
variable {p : Program} {l : Launch} {e : Env} {R : Room} {s : State} {m : MethodId} {args : Array Value} {below : List Frame} {meth : Method} {c : Code} {H : Heap} {locs : List Loc} {cells slots : Nat} {Q : State → Prop}
variable {cc : ByteArray} {pc : Nat} {ls : Array Slot} {rest : List Value} {D : va_G} {cl : List vw_C} {A : Nat → Prop} {tys : List (ClassId × FieldType)} {ws : va_W} {H0 : Heap}
theorem nA8 (hexec : p.tables.exec = Jvm.exec) (hb : c.code = cc) (harr : (Cond.arrayClass .byte).before args s = true) {c9 : ClassId} (h9 : s.vm.findClass ("[" ++ FieldType.byte.toString) = some c9) (hK : va_K D cl tys s) (hP : va_P D cl ws H) (hD : va_D A ws) (hS : va_S A H0 H locs) (hA : ∀ q, H0.size ≤ q → A q) {N : Nat} (hN : N < 2000) (hcells : cells + 1 ≤ R.cells) (hslots : slots + N ≤ R.slots) (hdg : decode cc pc = .ok (.newarray .byte, 2))
    (kk : ∀ (q : Nat) (H1 : Heap), va_P D cl (ws ++ [(q, .inl (c9, N, .inl (fun _ => 0)))]) H1 → va_D A (ws ++ [(q, .inl (c9, N, .inl (fun _ => 0)))]) → va_S A H0 H1 locs → W p l e R s m args below meth c H1 locs (cells + 1) (slots + N) Q (F0 m (pc + 2) ls (.ref q :: rest))) : W p l e R s m args below meth c H locs cells slots Q (F0 m pc ls (.int (nI N) :: rest)) := by
  refine va_newa (atype := .byte) (a0 := (N, .inl (fun _ => 0))) hexec hb harr rfl hK hP hD hS hA (fun _ => rfl) (nI_pos (by omega)) (nI_clamp (by omega)) (by show N * 1 ≤ _; omega) hcells hslots hdg fun q cA H1 hK1 hP1 hD1 hS1 => ?_
  have hR : va_RA s cA .byte := (hK1.2 tys.length (cA, .byte) (by rw [List.getElem?_append_right (Nat.le_refl _), Nat.sub_self]; rfl)).2
  have he : cA = c9 := Option.some.inj (hR.symm.trans h9)
  subst he
  exact kk q H1 hP1 hD1 hS1
theorem nA10 (hexec : p.tables.exec = Jvm.exec) (hb : c.code = cc) (harr : (Cond.arrayClass .boolean).before args s = true) {c9 : ClassId} (h9 : s.vm.findClass ("[" ++ FieldType.boolean.toString) = some c9) (hK : va_K D cl tys s) (hP : va_P D cl ws H) (hD : va_D A ws) (hS : va_S A H0 H locs) (hA : ∀ q, H0.size ≤ q → A q) {N : Nat} (hN : N < 2000) (hcells : cells + 1 ≤ R.cells) (hslots : slots + N ≤ R.slots) (hdg : decode cc pc = .ok (.newarray .boolean, 2))
    (kk : ∀ (q : Nat) (H1 : Heap), va_P D cl (ws ++ [(q, .inl (c9, N, .inl (fun _ => 0)))]) H1 → va_D A (ws ++ [(q, .inl (c9, N, .inl (fun _ => 0)))]) → va_S A H0 H1 locs → W p l e R s m args below meth c H1 locs (cells + 1) (slots + N) Q (F0 m (pc + 2) ls (.ref q :: rest))) : W p l e R s m args below meth c H locs cells slots Q (F0 m pc ls (.int (nI N) :: rest)) := by
  refine va_newa (atype := .boolean) (a0 := (N, .inl (fun _ => 0))) hexec hb harr rfl hK hP hD hS hA (fun _ => rfl) (nI_pos (by omega)) (nI_clamp (by omega)) (by show N * 1 ≤ _; omega) hcells hslots hdg fun q cA H1 hK1 hP1 hD1 hS1 => ?_
  have hR : va_RA s cA .boolean := (hK1.2 tys.length (cA, .boolean) (by rw [List.getElem?_append_right (Nat.le_refl _), Nat.sub_self]; rfl)).2
  have he : cA = c9 := Option.some.inj (hR.symm.trans h9)
  subst he
  exact kk q H1 hP1 hD1 hS1
end
def yMo : MethodName := ⟨"WinkCircleModel", "<init>", "()V"⟩
abbrev bMo : ByteArray := prog_9_method_1_code
def wMo : List Cond := .code yMo bMo 2 none :: tg
def oMo : va_E := .inr (7, [.null, .null, .null, .int 0, .null, .int 0, .null, .null, .null, .int 0, .null, .null, .null, .null, .int 0, .int 0, .int 0, .int 0, .int 0, .int 0, .int 0, .null, .null, .int 0])
theorem dMo_0 : decode bMo 0 = .ok (.aload_n 0, 1) := by decide +kernel
theorem dMo_1 : decode bMo 1 = .ok (.invokespecial 1, 3) := by decide +kernel
theorem dMo_4 : decode bMo 4 = .ok (.aload_n 0, 1) := by decide +kernel
theorem dMo_5 : decode bMo 5 = .ok (.bipush 8, 2) := by decide +kernel
theorem dMo_7 : decode bMo 7 = .ok (.newarray .int, 2) := by decide +kernel
theorem dMo_9 : decode bMo 9 = .ok (.putfield 7, 3) := by decide +kernel
theorem dMo_12 : decode bMo 12 = .ok (.aload_n 0, 1) := by decide +kernel
theorem dMo_13 : decode bMo 13 = .ok (.bipush 8, 2) := by decide +kernel
theorem dMo_15 : decode bMo 15 = .ok (.newarray .int, 2) := by decide +kernel
theorem dMo_17 : decode bMo 17 = .ok (.putfield 13, 3) := by decide +kernel
theorem dMo_20 : decode bMo 20 = .ok (.aload_n 0, 1) := by decide +kernel
theorem dMo_21 : decode bMo 21 = .ok (.sipush 320, 3) := by decide +kernel
theorem dMo_24 : decode bMo 24 = .ok (.newarray .int, 2) := by decide +kernel
theorem dMo_26 : decode bMo 26 = .ok (.putfield 16, 3) := by decide +kernel
theorem dMo_29 : decode bMo 29 = .ok (.aload_n 0, 1) := by decide +kernel
theorem dMo_30 : decode bMo 30 = .ok (.bipush 40, 2) := by decide +kernel
theorem dMo_32 : decode bMo 32 = .ok (.newarray .int, 2) := by decide +kernel
theorem dMo_34 : decode bMo 34 = .ok (.putfield 19, 3) := by decide +kernel
theorem dMo_37 : decode bMo 37 = .ok (.aload_n 0, 1) := by decide +kernel
theorem dMo_38 : decode bMo 38 = .ok (.bipush 54, 2) := by decide +kernel
theorem dMo_40 : decode bMo 40 = .ok (.newarray .int, 2) := by decide +kernel
theorem dMo_42 : decode bMo 42 = .ok (.putfield 22, 3) := by decide +kernel
theorem dMo_45 : decode bMo 45 = .ok (.aload_n 0, 1) := by decide +kernel
theorem dMo_46 : decode bMo 46 = .ok (.bipush 54, 2) := by decide +kernel
theorem dMo_48 : decode bMo 48 = .ok (.newarray .int, 2) := by decide +kernel
theorem dMo_50 : decode bMo 50 = .ok (.putfield 25, 3) := by decide +kernel
theorem dMo_53 : decode bMo 53 = .ok (.aload_n 0, 1) := by decide +kernel
theorem dMo_54 : decode bMo 54 = .ok (.sipush 1296, 3) := by decide +kernel
theorem dMo_57 : decode bMo 57 = .ok (.newarray .int, 2) := by decide +kernel
theorem dMo_59 : decode bMo 59 = .ok (.putfield 28, 3) := by decide +kernel
theorem dMo_62 : decode bMo 62 = .ok (.aload_n 0, 1) := by decide +kernel
theorem dMo_63 : decode bMo 63 = .ok (.bipush 108, 2) := by decide +kernel
theorem dMo_65 : decode bMo 65 = .ok (.newarray .int, 2) := by decide +kernel
theorem dMo_67 : decode bMo 67 = .ok (.putfield 31, 3) := by decide +kernel
theorem dMo_70 : decode bMo 70 = .ok (.aload_n 0, 1) := by decide +kernel
theorem dMo_71 : decode bMo 71 = .ok (.iconst 2, 1) := by decide +kernel
theorem dMo_72 : decode bMo 72 = .ok (.newarray .boolean, 2) := by decide +kernel
theorem dMo_74 : decode bMo 74 = .ok (.putfield 34, 3) := by decide +kernel
theorem dMo_77 : decode bMo 77 = .ok (.aload_n 0, 1) := by decide +kernel
theorem dMo_78 : decode bMo 78 = .ok (.bipush 8, 2) := by decide +kernel
theorem dMo_80 : decode bMo 80 = .ok (.newarray .int, 2) := by decide +kernel
theorem dMo_82 : decode bMo 82 = .ok (.putfield 38, 3) := by decide +kernel
theorem dMo_85 : decode bMo 85 = .ok (.aload_n 0, 1) := by decide +kernel
theorem dMo_86 : decode bMo 86 = .ok (.bipush 100, 2) := by decide +kernel
theorem dMo_88 : decode bMo 88 = .ok (.newarray .byte, 2) := by decide +kernel
theorem dMo_90 : decode bMo 90 = .ok (.putfield 41, 3) := by decide +kernel
theorem dMo_93 : decode bMo 93 = .ok (.aload_n 0, 1) := by decide +kernel
theorem dMo_94 : decode bMo 94 = .ok (.sipush 512, 3) := by decide +kernel
theorem dMo_97 : decode bMo 97 = .ok (.newarray .int, 2) := by decide +kernel
theorem dMo_99 : decode bMo 99 = .ok (.putfield 45, 3) := by decide +kernel
theorem dMo_102 : decode bMo 102 = .ok (.aload_n 0, 1) := by decide +kernel
theorem dMo_103 : decode bMo 103 = .ok (.bipush 16, 2) := by decide +kernel
theorem dMo_105 : decode bMo 105 = .ok (.newarray .int, 2) := by decide +kernel
theorem dMo_107 : decode bMo 107 = .ok (.putfield 48, 3) := by decide +kernel
theorem dMo_110 : decode bMo 110 = .ok (.iconst 0, 1) := by decide +kernel
theorem dMo_111 : decode bMo 111 = .ok (.istore_n 1, 1) := by decide +kernel
theorem dMo_112 : decode bMo 112 = .ok (.iload_n 1, 1) := by decide +kernel
theorem dMo_113 : decode bMo 113 = .ok (.bipush 8, 2) := by decide +kernel
theorem dMo_115 : decode bMo 115 = .ok (.if_icmp .ge 16, 3) := by decide +kernel
theorem dMo_118 : decode bMo 118 = .ok (.aload_n 0, 1) := by decide +kernel
theorem dMo_119 : decode bMo 119 = .ok (.getfield 7, 3) := by decide +kernel
theorem dMo_122 : decode bMo 122 = .ok (.iload_n 1, 1) := by decide +kernel
theorem dMo_123 : decode bMo 123 = .ok (.iconst (-1), 1) := by decide +kernel
theorem dMo_124 : decode bMo 124 = .ok (.iastore, 1) := by decide +kernel
theorem dMo_125 : decode bMo 125 = .ok (.iinc 1 1, 3) := by decide +kernel
theorem dMo_128 : decode bMo 128 = .ok (.goto (-16), 3) := by decide +kernel
theorem dMo_131 : decode bMo 131 = .ok (.return_, 1) := by decide +kernel
section
variable {p : Program} {l : Launch} {e : Env} {R : Room} {s : State} {m : MethodId} {args : Array Value} {below : List Frame} {meth : Method} {c : Code} {cells slots : Nat} {Q : State → Prop} {D : va_G} {A : Nat → Prop} {tys : List (ClassId × FieldType)}
theorem moLoop {c9 : ClassId} {h0 q1 : Nat} {fs : List Value} {X : va_W} {H0 : Heap} (hx : p.tables.exec = Jvm.exec) (hb : c.code = bMo) (hown : s.vm.findClass RX7 = some m.cls) (htg : ∀ w ∈ tg, w.before args s = true) (hK : va_K D vwCl tys s) (ht : tys[1]? = some (c9, .int))
    (fin : ∀ (H : Heap) (locs : List Loc) (ls : Array Slot), va_P D vwCl ([(h0, .inr (7, .ref q1 :: fs))] ++ ([(q1, .inl (c9, 8, .inl (lnF 8)))] ++ X)) H → va_D A ([(h0, .inr (7, .ref q1 :: fs))] ++ ([(q1, .inl (c9, 8, .inl (lnF 8)))] ++ X)) → va_S A H0 H locs → W p l e R s m args below meth c H locs cells slots Q (F0 m 131 ls [])) :
    ∀ (n i : Nat) (H : Heap) (locs : List Loc) (ls : Array Slot), i + n = 8 → va_P D vwCl ([(h0, .inr (7, .ref q1 :: fs))] ++ ([(q1, .inl (c9, 8, .inl (lnF i)))] ++ X)) H → va_D A ([(h0, .inr (7, .ref q1 :: fs))] ++ ([(q1, .inl (c9, 8, .inl (lnF i)))] ++ X)) → va_S A H0 H locs → lv_has ls 2 [(1, .int (nI i)), (0, .ref h0)] → W p l e R s m args below meth c H locs cells slots Q (F0 m 112 ls []) := by
  intro n
  induction n with
  | zero =>
    intro i H locs ls hi hP hD hS hl
    have h8 : i = 8 := by omega
    subst h8
    refine lv_iload_n hx hb dMo_112 rfl (lv_at hl 0 rfl) ?_
    refine lv_bipush (v := nI 8) hx hb dMo_113 (by decide) ?_
    refine lv_icmp_ge (tgt := 131) hx hb dMo_115 (by decide) (fun _ => ?_) (fun z => absurd (by decide) z)
    exact fin H locs ls hP hD hS
  | succ n ih =>
    intro i H locs ls hi hP hD hS hl
    refine lv_iload_n hx hb dMo_112 rfl (lv_at hl 0 rfl) ?_
    refine lv_bipush (v := nI 8) hx hb dMo_113 (by decide) ?_
    refine lv_icmp_ge (tgt := 131) hx hb dMo_115 (by decide) (fun z => absurd ((nI_leI (by omega) (by omega)).1 z) (by omega)) (fun _ => ?_)
    refine lv_aload_n hx hb dMo_118 rfl (lv_at hl 1 rfl) ?_
    refine va_get (v := .ref q1) (C := RX7) (T := vwT 7) (N := nf 7) hx hb htg (cls_tg inX7) hown hK hP 0 rfl rfl 0 (by decide) (htg (.fieldLink RX7 7 "WinkCircleModel" "lane" "[I") (tg_in (p := 854) (by decide +kernel) rfl)) (fun _ h9 => h9) rfl dMo_119 ?_
    refine lv_iload_n hx hb dMo_122 rfl (lv_at hl 0 rfl) ?_
    refine lv_iconst (v := c_m1) hx hb dMo_123 c_m1_e.symm ?_
    refine va_iast hx hb hK hP hD hS 1 1 rfl ht (vp_in_nI (show i < 8 by omega) (by decide)) dMo_124 (fun H1 locs1 hP1 hD1 hS1 => ?_)
    have hu : upd (lnF i) (nI i).toNatClampNeg c_m1 = lnF (i + 1) := by
      rw [nI_clamp (by omega)]
      funext j
      unfold upd lnF
      by_cases q : j = i
      · rw [if_pos q, if_pos (by omega)]
      · rw [if_neg q]
        by_cases q2 : j < i
        · rw [if_pos q2, if_pos (by omega)]
        · rw [if_neg q2, if_neg (by omega)]
    rw [hu] at hP1 hD1
    refine lv_iinc (v := nI (i + 1)) (lv' := [(1, .int (nI (i + 1))), (0, .ref h0)]) hx hb dMo_125 hl (k := 0) rfl (by rw [← nI_add]; rfl) (by decide) rfl (fun ls hl => ?_)
    refine lv_goto (tgt := 112) hx hb dMo_128 (by decide) ?_
    exact ih (i + 1) H1 locs1 ls (by omega) hP1 hD1 hS1 hl
end
set_option maxHeartbeats 4000000 in
set_option maxRecDepth 100000 in
theorem c_Mo (l : Launch) (D : va_G) (tys : List (ClassId × FieldType)) (c8 c9 c10 : ClassId) (ht : tys[1]? = some (c9, .int)) (h0 sz : Nat) : Met l yMo wMo ({ frames := 1, cells := 13, slots := 2526, locals := 12 }) (va_Pc [.ref h0] (fun U => U.heap.size = sz ∧ va_P D vwCl [(h0, oMo)] U.heap ∧ va_K D vwCl tys U ∧ va_D (fun _ => True) [(h0, oMo)] ∧ U.vm.findClass ("[" ++ FieldType.int.toString) = some c9 ∧ U.vm.findClass ("[" ++ FieldType.byte.toString) = some c8 ∧ U.vm.findClass ("[" ++ FieldType.boolean.toString) = some c10)) (va_Qv (fun _ : Nat → Nat => True) (fun u t => va_P D vwCl (([(h0, .inr (7, [.ref (u 1), .ref (u 2), .ref (u 3), .int 0, .ref (u 4), .int 0, .ref (u 5), .ref (u 6), .ref (u 7), .int 0, .ref (u 8), .ref (u 9), .ref (u 10), .ref (u 11), .int 0, .int 0, .int 0, .int 0, .int 0, .int 0, .int 0, .ref (u 12), .ref (u 13), .int 0]))] ++ ([((u 1), .inl (c9, 8, .inl (lnF 8)))] ++ [((u 2), zr c9 8), ((u 3), zr c9 320), ((u 4), zr c9 40), ((u 5), zr c9 54), ((u 6), zr c9 54), ((u 7), zr c9 1296), ((u 8), zr c9 108), ((u 9), zr c10 2), ((u 10), zr c9 8), ((u 11), zr c8 100), ((u 12), zr c9 512), ((u 13), zr c9 16)]))) t.heap ∧ va_D (va_A [(h0, oMo)] sz) (([(h0, .inr (7, [.ref (u 1), .ref (u 2), .ref (u 3), .int 0, .ref (u 4), .int 0, .ref (u 5), .ref (u 6), .ref (u 7), .int 0, .ref (u 8), .ref (u 9), .ref (u 10), .ref (u 11), .int 0, .int 0, .int 0, .int 0, .int 0, .int 0, .int 0, .ref (u 12), .ref (u 13), .int 0]))] ++ ([((u 1), .inl (c9, 8, .inl (lnF 8)))] ++ [((u 2), zr c9 8), ((u 3), zr c9 320), ((u 4), zr c9 40), ((u 5), zr c9 54), ((u 6), zr c9 54), ((u 7), zr c9 1296), ((u 8), zr c9 108), ((u 9), zr c10 2), ((u 10), zr c9 8), ((u 11), zr c8 100), ((u 12), zr c9 512), ((u 13), zr c9 16)])))) (va_A [(h0, oMo)] sz)) 13 2526 (va_A [(h0, oMo)] sz) := by
  refine Met.ofW (cc := bMo) (maxL := 2) (ret := none) (by decide) rfl ?_
  intro p e s m args below meth c s₁ B hml hv
  obtain ⟨rfl, hsz, hP, hK, hD0, h9, h8, h10⟩ := hv
  have hx := B.exec
  have hb := B.bytes
  have hr := B.returns
  have hts := atoms_spec (ws := wMo) B.pre
  have hown : s.vm.findClass RX7 = some m.cls := findClass_of_methodNamed B.named
  have hlocks := B.notSynchronized
  have hin : meth.name = "<init>" := (name_of_methodNamed B.named B.method).1
  have htg : ∀ q ∈ tg, q.before _ s = true := fun q hq => hts q (List.mem_cons_of_mem _ hq)
  subst hsz
  have hD := hD0.self (sz := s.heap.size)
  generalize hAe : va_A [(h0, oMo)] s.heap.size = A at hD ⊢
  have hA : ∀ q : Nat, s.heap.size ≤ q → A q := fun q h => by rw [← hAe]; exact Or.inr h
  have hS : va_S A s.heap s.heap [] := va_S.rf
  have hl := lv_entry ([.ref h0]) (n := 2) (Nat.le_of_ble_eq_true rfl)
  rw [lg_entry_eq]
  generalize (lg_sl ([.ref h0]) ++ List.replicate (2 - (lg_sl ([.ref h0])).length) Slot.unset).toArray = ls at hl ⊢
  have hl : lv_has ls 2 [(0, .ref h0)] := hl
  have harr : (Cond.arrayClass .int).before _ s = true := (htg (.arrayClass .int) (tg_in (p := 92) (by decide +kernel) rfl))
  have harr8 : (Cond.arrayClass .byte).before _ s = true := (htg (.arrayClass .byte) (tg_in (p := 928) (by decide +kernel) rfl))
  have harr10 : (Cond.arrayClass .boolean).before _ s = true := (htg (.arrayClass .boolean) (tg_in (p := 927) (by decide +kernel) rfl))
  refine lv_aload_n hx hb dMo_0 rfl (lv_at hl 0 rfl) ?_
  refine W.objInit hx hb hown (htg (.methodLink RX7 1 objectInit) (tg_in (p := 853) (by decide +kernel) rfl)) (htg (.instanceMethod objectInit) (tg_in (p := 72) (by decide +kernel) rfl)) (htg (.code objectInit ⟨#[0xb1]⟩ 1 none) (tg_in (p := 73) (by decide +kernel) rfl)) rfl (by rw [hml]; exact hl.1) rfl dMo_1 (Nat.le_of_ble_eq_true rfl) (Nat.le_of_ble_eq_true rfl) ?_
  refine W.eq (g2 := F0 m 4 ls []) rfl ?_
  have hP : va_P D vwCl ([(h0, .inr (7, [.null, .null, .null, .int 0, .null, .int 0, .null, .null, .null, .int 0, .null, .null, .null, .null, .int 0, .int 0, .int 0, .int 0, .int 0, .int 0, .int 0, .null, .null, .int 0]))]) s.heap := hP
  have hD : va_D A ([(h0, .inr (7, [.null, .null, .null, .int 0, .null, .int 0, .null, .null, .null, .int 0, .null, .null, .null, .null, .int 0, .int 0, .int 0, .int 0, .int 0, .int 0, .int 0, .null, .null, .int 0]))]) := hD
  refine lv_aload_n hx hb dMo_4 rfl (lv_at hl 0 rfl) ?_
  refine lv_bipush (v := nI 8) hx hb dMo_5 (by decide) ?_
  refine nA9 hx hb harr h9 hK hP hD hS hA (N := 8) (by decide) (Nat.le_of_ble_eq_true rfl) (Nat.le_of_ble_eq_true rfl) dMo_7 (fun q1 H hP hD hS => ?_)
  have hP : va_P D vwCl ([(h0, .inr (7, [.null, .null, .null, .int 0, .null, .int 0, .null, .null, .null, .int 0, .null, .null, .null, .null, .int 0, .int 0, .int 0, .int 0, .int 0, .int 0, .int 0, .null, .null, .int 0]))] ++ [(q1, zr c9 8)]) H := hP
  have hD : va_D A ([(h0, .inr (7, [.null, .null, .null, .int 0, .null, .int 0, .null, .null, .null, .int 0, .null, .null, .null, .null, .int 0, .int 0, .int 0, .int 0, .int 0, .int 0, .int 0, .null, .null, .int 0]))] ++ [(q1, zr c9 8)]) := hD
  refine va_putF (D := D) (ci := 7) (v := .ref q1) (ty := .array .int) (C := RX7) (T := vwT 7) (N := nf 7) hx hb htg (cls_tg inX7) tyX7 tyX7_ok nmX7 hown hK hP hD hS 0 rfl rfl 0 (by decide) (htg (.fieldLink RX7 7 "WinkCircleModel" "lane" "[I") (tg_in (p := 854) (by decide +kernel) rfl)) (fun _ h9 => h9) rfl hin rfl (by decide +kernel) rfl rfl (Nat.le_of_ble_eq_true rfl) dMo_9 (fun H locs hP hD hS => ?_)
  have hP : va_P D vwCl ([(h0, .inr (7, [.ref q1, .null, .null, .int 0, .null, .int 0, .null, .null, .null, .int 0, .null, .null, .null, .null, .int 0, .int 0, .int 0, .int 0, .int 0, .int 0, .int 0, .null, .null, .int 0]))] ++ [(q1, zr c9 8)]) H := hP
  have hD : va_D A ([(h0, .inr (7, [.ref q1, .null, .null, .int 0, .null, .int 0, .null, .null, .null, .int 0, .null, .null, .null, .null, .int 0, .int 0, .int 0, .int 0, .int 0, .int 0, .int 0, .null, .null, .int 0]))] ++ [(q1, zr c9 8)]) := hD
  refine lv_aload_n hx hb dMo_12 rfl (lv_at hl 0 rfl) ?_
  refine lv_bipush (v := nI 8) hx hb dMo_13 (by decide) ?_
  refine nA9 hx hb harr h9 hK hP hD hS hA (N := 8) (by decide) (Nat.le_of_ble_eq_true rfl) (Nat.le_of_ble_eq_true rfl) dMo_15 (fun q2 H hP hD hS => ?_)
  have hP : va_P D vwCl ([(h0, .inr (7, [.ref q1, .null, .null, .int 0, .null, .int 0, .null, .null, .null, .int 0, .null, .null, .null, .null, .int 0, .int 0, .int 0, .int 0, .int 0, .int 0, .int 0, .null, .null, .int 0]))] ++ [(q1, zr c9 8)] ++ [(q2, zr c9 8)]) H := hP
  have hD : va_D A ([(h0, .inr (7, [.ref q1, .null, .null, .int 0, .null, .int 0, .null, .null, .null, .int 0, .null, .null, .null, .null, .int 0, .int 0, .int 0, .int 0, .int 0, .int 0, .int 0, .null, .null, .int 0]))] ++ [(q1, zr c9 8)] ++ [(q2, zr c9 8)]) := hD
  refine va_putF (D := D) (ci := 7) (v := .ref q2) (ty := .array .int) (C := RX7) (T := vwT 7) (N := nf 7) hx hb htg (cls_tg inX7) tyX7 tyX7_ok nmX7 hown hK hP hD hS 0 rfl rfl 1 (by decide) (htg (.fieldLink RX7 13 "WinkCircleModel" "many" "[I") (tg_in (p := 855) (by decide +kernel) rfl)) (fun _ h9 => h9) rfl hin rfl (by decide +kernel) rfl rfl (Nat.le_of_ble_eq_true rfl) dMo_17 (fun H locs hP hD hS => ?_)
  have hP : va_P D vwCl ([(h0, .inr (7, [.ref q1, .ref q2, .null, .int 0, .null, .int 0, .null, .null, .null, .int 0, .null, .null, .null, .null, .int 0, .int 0, .int 0, .int 0, .int 0, .int 0, .int 0, .null, .null, .int 0]))] ++ [(q1, zr c9 8)] ++ [(q2, zr c9 8)]) H := hP
  have hD : va_D A ([(h0, .inr (7, [.ref q1, .ref q2, .null, .int 0, .null, .int 0, .null, .null, .null, .int 0, .null, .null, .null, .null, .int 0, .int 0, .int 0, .int 0, .int 0, .int 0, .int 0, .null, .null, .int 0]))] ++ [(q1, zr c9 8)] ++ [(q2, zr c9 8)]) := hD
  refine lv_aload_n hx hb dMo_20 rfl (lv_at hl 0 rfl) ?_
  refine lv_sipush (v := nI 320) hx hb dMo_21 (by decide) ?_
  refine nA9 hx hb harr h9 hK hP hD hS hA (N := 320) (by decide) (Nat.le_of_ble_eq_true rfl) (Nat.le_of_ble_eq_true rfl) dMo_24 (fun q3 H hP hD hS => ?_)
  have hP : va_P D vwCl ([(h0, .inr (7, [.ref q1, .ref q2, .null, .int 0, .null, .int 0, .null, .null, .null, .int 0, .null, .null, .null, .null, .int 0, .int 0, .int 0, .int 0, .int 0, .int 0, .int 0, .null, .null, .int 0]))] ++ [(q1, zr c9 8)] ++ [(q2, zr c9 8)] ++ [(q3, zr c9 320)]) H := hP
  have hD : va_D A ([(h0, .inr (7, [.ref q1, .ref q2, .null, .int 0, .null, .int 0, .null, .null, .null, .int 0, .null, .null, .null, .null, .int 0, .int 0, .int 0, .int 0, .int 0, .int 0, .int 0, .null, .null, .int 0]))] ++ [(q1, zr c9 8)] ++ [(q2, zr c9 8)] ++ [(q3, zr c9 320)]) := hD
  refine va_putF (D := D) (ci := 7) (v := .ref q3) (ty := .array .int) (C := RX7) (T := vwT 7) (N := nf 7) hx hb htg (cls_tg inX7) tyX7 tyX7_ok nmX7 hown hK hP hD hS 0 rfl rfl 2 (by decide) (htg (.fieldLink RX7 16 "WinkCircleModel" "items" "[I") (tg_in (p := 856) (by decide +kernel) rfl)) (fun _ h9 => h9) rfl hin rfl (by decide +kernel) rfl rfl (Nat.le_of_ble_eq_true rfl) dMo_26 (fun H locs hP hD hS => ?_)
  have hP : va_P D vwCl ([(h0, .inr (7, [.ref q1, .ref q2, .ref q3, .int 0, .null, .int 0, .null, .null, .null, .int 0, .null, .null, .null, .null, .int 0, .int 0, .int 0, .int 0, .int 0, .int 0, .int 0, .null, .null, .int 0]))] ++ [(q1, zr c9 8)] ++ [(q2, zr c9 8)] ++ [(q3, zr c9 320)]) H := hP
  have hD : va_D A ([(h0, .inr (7, [.ref q1, .ref q2, .ref q3, .int 0, .null, .int 0, .null, .null, .null, .int 0, .null, .null, .null, .null, .int 0, .int 0, .int 0, .int 0, .int 0, .int 0, .int 0, .null, .null, .int 0]))] ++ [(q1, zr c9 8)] ++ [(q2, zr c9 8)] ++ [(q3, zr c9 320)]) := hD
  refine lv_aload_n hx hb dMo_29 rfl (lv_at hl 0 rfl) ?_
  refine lv_bipush (v := nI 40) hx hb dMo_30 (by decide) ?_
  refine nA9 hx hb harr h9 hK hP hD hS hA (N := 40) (by decide) (Nat.le_of_ble_eq_true rfl) (Nat.le_of_ble_eq_true rfl) dMo_32 (fun q4 H hP hD hS => ?_)
  have hP : va_P D vwCl ([(h0, .inr (7, [.ref q1, .ref q2, .ref q3, .int 0, .null, .int 0, .null, .null, .null, .int 0, .null, .null, .null, .null, .int 0, .int 0, .int 0, .int 0, .int 0, .int 0, .int 0, .null, .null, .int 0]))] ++ [(q1, zr c9 8)] ++ [(q2, zr c9 8)] ++ [(q3, zr c9 320)] ++ [(q4, zr c9 40)]) H := hP
  have hD : va_D A ([(h0, .inr (7, [.ref q1, .ref q2, .ref q3, .int 0, .null, .int 0, .null, .null, .null, .int 0, .null, .null, .null, .null, .int 0, .int 0, .int 0, .int 0, .int 0, .int 0, .int 0, .null, .null, .int 0]))] ++ [(q1, zr c9 8)] ++ [(q2, zr c9 8)] ++ [(q3, zr c9 320)] ++ [(q4, zr c9 40)]) := hD
  refine va_putF (D := D) (ci := 7) (v := .ref q4) (ty := .array .int) (C := RX7) (T := vwT 7) (N := nf 7) hx hb htg (cls_tg inX7) tyX7 tyX7_ok nmX7 hown hK hP hD hS 0 rfl rfl 4 (by decide) (htg (.fieldLink RX7 19 "WinkCircleModel" "moved" "[I") (tg_in (p := 858) (by decide +kernel) rfl)) (fun _ h9 => h9) rfl hin rfl (by decide +kernel) rfl rfl (Nat.le_of_ble_eq_true rfl) dMo_34 (fun H locs hP hD hS => ?_)
  have hP : va_P D vwCl ([(h0, .inr (7, [.ref q1, .ref q2, .ref q3, .int 0, .ref q4, .int 0, .null, .null, .null, .int 0, .null, .null, .null, .null, .int 0, .int 0, .int 0, .int 0, .int 0, .int 0, .int 0, .null, .null, .int 0]))] ++ [(q1, zr c9 8)] ++ [(q2, zr c9 8)] ++ [(q3, zr c9 320)] ++ [(q4, zr c9 40)]) H := hP
  have hD : va_D A ([(h0, .inr (7, [.ref q1, .ref q2, .ref q3, .int 0, .ref q4, .int 0, .null, .null, .null, .int 0, .null, .null, .null, .null, .int 0, .int 0, .int 0, .int 0, .int 0, .int 0, .int 0, .null, .null, .int 0]))] ++ [(q1, zr c9 8)] ++ [(q2, zr c9 8)] ++ [(q3, zr c9 320)] ++ [(q4, zr c9 40)]) := hD
  refine lv_aload_n hx hb dMo_37 rfl (lv_at hl 0 rfl) ?_
  refine lv_bipush (v := nI 54) hx hb dMo_38 (by decide) ?_
  refine nA9 hx hb harr h9 hK hP hD hS hA (N := 54) (by decide) (Nat.le_of_ble_eq_true rfl) (Nat.le_of_ble_eq_true rfl) dMo_40 (fun q5 H hP hD hS => ?_)
  have hP : va_P D vwCl ([(h0, .inr (7, [.ref q1, .ref q2, .ref q3, .int 0, .ref q4, .int 0, .null, .null, .null, .int 0, .null, .null, .null, .null, .int 0, .int 0, .int 0, .int 0, .int 0, .int 0, .int 0, .null, .null, .int 0]))] ++ [(q1, zr c9 8)] ++ [(q2, zr c9 8)] ++ [(q3, zr c9 320)] ++ [(q4, zr c9 40)] ++ [(q5, zr c9 54)]) H := hP
  have hD : va_D A ([(h0, .inr (7, [.ref q1, .ref q2, .ref q3, .int 0, .ref q4, .int 0, .null, .null, .null, .int 0, .null, .null, .null, .null, .int 0, .int 0, .int 0, .int 0, .int 0, .int 0, .int 0, .null, .null, .int 0]))] ++ [(q1, zr c9 8)] ++ [(q2, zr c9 8)] ++ [(q3, zr c9 320)] ++ [(q4, zr c9 40)] ++ [(q5, zr c9 54)]) := hD
  refine va_putF (D := D) (ci := 7) (v := .ref q5) (ty := .array .int) (C := RX7) (T := vwT 7) (N := nf 7) hx hb htg (cls_tg inX7) tyX7 tyX7_ok nmX7 hown hK hP hD hS 0 rfl rfl 6 (by decide) (htg (.fieldLink RX7 22 "WinkCircleModel" "now" "[I") (tg_in (p := 860) (by decide +kernel) rfl)) (fun _ h9 => h9) rfl hin rfl (by decide +kernel) rfl rfl (Nat.le_of_ble_eq_true rfl) dMo_42 (fun H locs hP hD hS => ?_)
  have hP : va_P D vwCl ([(h0, .inr (7, [.ref q1, .ref q2, .ref q3, .int 0, .ref q4, .int 0, .ref q5, .null, .null, .int 0, .null, .null, .null, .null, .int 0, .int 0, .int 0, .int 0, .int 0, .int 0, .int 0, .null, .null, .int 0]))] ++ [(q1, zr c9 8)] ++ [(q2, zr c9 8)] ++ [(q3, zr c9 320)] ++ [(q4, zr c9 40)] ++ [(q5, zr c9 54)]) H := hP
  have hD : va_D A ([(h0, .inr (7, [.ref q1, .ref q2, .ref q3, .int 0, .ref q4, .int 0, .ref q5, .null, .null, .int 0, .null, .null, .null, .null, .int 0, .int 0, .int 0, .int 0, .int 0, .int 0, .int 0, .null, .null, .int 0]))] ++ [(q1, zr c9 8)] ++ [(q2, zr c9 8)] ++ [(q3, zr c9 320)] ++ [(q4, zr c9 40)] ++ [(q5, zr c9 54)]) := hD
  refine lv_aload_n hx hb dMo_45 rfl (lv_at hl 0 rfl) ?_
  refine lv_bipush (v := nI 54) hx hb dMo_46 (by decide) ?_
  refine nA9 hx hb harr h9 hK hP hD hS hA (N := 54) (by decide) (Nat.le_of_ble_eq_true rfl) (Nat.le_of_ble_eq_true rfl) dMo_48 (fun q6 H hP hD hS => ?_)
  have hP : va_P D vwCl ([(h0, .inr (7, [.ref q1, .ref q2, .ref q3, .int 0, .ref q4, .int 0, .ref q5, .null, .null, .int 0, .null, .null, .null, .null, .int 0, .int 0, .int 0, .int 0, .int 0, .int 0, .int 0, .null, .null, .int 0]))] ++ [(q1, zr c9 8)] ++ [(q2, zr c9 8)] ++ [(q3, zr c9 320)] ++ [(q4, zr c9 40)] ++ [(q5, zr c9 54)] ++ [(q6, zr c9 54)]) H := hP
  have hD : va_D A ([(h0, .inr (7, [.ref q1, .ref q2, .ref q3, .int 0, .ref q4, .int 0, .ref q5, .null, .null, .int 0, .null, .null, .null, .null, .int 0, .int 0, .int 0, .int 0, .int 0, .int 0, .int 0, .null, .null, .int 0]))] ++ [(q1, zr c9 8)] ++ [(q2, zr c9 8)] ++ [(q3, zr c9 320)] ++ [(q4, zr c9 40)] ++ [(q5, zr c9 54)] ++ [(q6, zr c9 54)]) := hD
  refine va_putF (D := D) (ci := 7) (v := .ref q6) (ty := .array .int) (C := RX7) (T := vwT 7) (N := nf 7) hx hb htg (cls_tg inX7) tyX7 tyX7_ok nmX7 hown hK hP hD hS 0 rfl rfl 7 (by decide) (htg (.fieldLink RX7 25 "WinkCircleModel" "tried" "[I") (tg_in (p := 861) (by decide +kernel) rfl)) (fun _ h9 => h9) rfl hin rfl (by decide +kernel) rfl rfl (Nat.le_of_ble_eq_true rfl) dMo_50 (fun H locs hP hD hS => ?_)
  have hP : va_P D vwCl ([(h0, .inr (7, [.ref q1, .ref q2, .ref q3, .int 0, .ref q4, .int 0, .ref q5, .ref q6, .null, .int 0, .null, .null, .null, .null, .int 0, .int 0, .int 0, .int 0, .int 0, .int 0, .int 0, .null, .null, .int 0]))] ++ [(q1, zr c9 8)] ++ [(q2, zr c9 8)] ++ [(q3, zr c9 320)] ++ [(q4, zr c9 40)] ++ [(q5, zr c9 54)] ++ [(q6, zr c9 54)]) H := hP
  have hD : va_D A ([(h0, .inr (7, [.ref q1, .ref q2, .ref q3, .int 0, .ref q4, .int 0, .ref q5, .ref q6, .null, .int 0, .null, .null, .null, .null, .int 0, .int 0, .int 0, .int 0, .int 0, .int 0, .int 0, .null, .null, .int 0]))] ++ [(q1, zr c9 8)] ++ [(q2, zr c9 8)] ++ [(q3, zr c9 320)] ++ [(q4, zr c9 40)] ++ [(q5, zr c9 54)] ++ [(q6, zr c9 54)]) := hD
  refine lv_aload_n hx hb dMo_53 rfl (lv_at hl 0 rfl) ?_
  refine lv_sipush (v := nI 1296) hx hb dMo_54 (by decide) ?_
  refine nA9 hx hb harr h9 hK hP hD hS hA (N := 1296) (by decide) (Nat.le_of_ble_eq_true rfl) (Nat.le_of_ble_eq_true rfl) dMo_57 (fun q7 H hP hD hS => ?_)
  have hP : va_P D vwCl ([(h0, .inr (7, [.ref q1, .ref q2, .ref q3, .int 0, .ref q4, .int 0, .ref q5, .ref q6, .null, .int 0, .null, .null, .null, .null, .int 0, .int 0, .int 0, .int 0, .int 0, .int 0, .int 0, .null, .null, .int 0]))] ++ [(q1, zr c9 8)] ++ [(q2, zr c9 8)] ++ [(q3, zr c9 320)] ++ [(q4, zr c9 40)] ++ [(q5, zr c9 54)] ++ [(q6, zr c9 54)] ++ [(q7, zr c9 1296)]) H := hP
  have hD : va_D A ([(h0, .inr (7, [.ref q1, .ref q2, .ref q3, .int 0, .ref q4, .int 0, .ref q5, .ref q6, .null, .int 0, .null, .null, .null, .null, .int 0, .int 0, .int 0, .int 0, .int 0, .int 0, .int 0, .null, .null, .int 0]))] ++ [(q1, zr c9 8)] ++ [(q2, zr c9 8)] ++ [(q3, zr c9 320)] ++ [(q4, zr c9 40)] ++ [(q5, zr c9 54)] ++ [(q6, zr c9 54)] ++ [(q7, zr c9 1296)]) := hD
  refine va_putF (D := D) (ci := 7) (v := .ref q7) (ty := .array .int) (C := RX7) (T := vwT 7) (N := nf 7) hx hb htg (cls_tg inX7) tyX7 tyX7_ok nmX7 hown hK hP hD hS 0 rfl rfl 8 (by decide) (htg (.fieldLink RX7 28 "WinkCircleModel" "before" "[I") (tg_in (p := 862) (by decide +kernel) rfl)) (fun _ h9 => h9) rfl hin rfl (by decide +kernel) rfl rfl (Nat.le_of_ble_eq_true rfl) dMo_59 (fun H locs hP hD hS => ?_)
  have hP : va_P D vwCl ([(h0, .inr (7, [.ref q1, .ref q2, .ref q3, .int 0, .ref q4, .int 0, .ref q5, .ref q6, .ref q7, .int 0, .null, .null, .null, .null, .int 0, .int 0, .int 0, .int 0, .int 0, .int 0, .int 0, .null, .null, .int 0]))] ++ [(q1, zr c9 8)] ++ [(q2, zr c9 8)] ++ [(q3, zr c9 320)] ++ [(q4, zr c9 40)] ++ [(q5, zr c9 54)] ++ [(q6, zr c9 54)] ++ [(q7, zr c9 1296)]) H := hP
  have hD : va_D A ([(h0, .inr (7, [.ref q1, .ref q2, .ref q3, .int 0, .ref q4, .int 0, .ref q5, .ref q6, .ref q7, .int 0, .null, .null, .null, .null, .int 0, .int 0, .int 0, .int 0, .int 0, .int 0, .int 0, .null, .null, .int 0]))] ++ [(q1, zr c9 8)] ++ [(q2, zr c9 8)] ++ [(q3, zr c9 320)] ++ [(q4, zr c9 40)] ++ [(q5, zr c9 54)] ++ [(q6, zr c9 54)] ++ [(q7, zr c9 1296)]) := hD
  refine lv_aload_n hx hb dMo_62 rfl (lv_at hl 0 rfl) ?_
  refine lv_bipush (v := nI 108) hx hb dMo_63 (by decide) ?_
  refine nA9 hx hb harr h9 hK hP hD hS hA (N := 108) (by decide) (Nat.le_of_ble_eq_true rfl) (Nat.le_of_ble_eq_true rfl) dMo_65 (fun q8 H hP hD hS => ?_)
  have hP : va_P D vwCl ([(h0, .inr (7, [.ref q1, .ref q2, .ref q3, .int 0, .ref q4, .int 0, .ref q5, .ref q6, .ref q7, .int 0, .null, .null, .null, .null, .int 0, .int 0, .int 0, .int 0, .int 0, .int 0, .int 0, .null, .null, .int 0]))] ++ [(q1, zr c9 8)] ++ [(q2, zr c9 8)] ++ [(q3, zr c9 320)] ++ [(q4, zr c9 40)] ++ [(q5, zr c9 54)] ++ [(q6, zr c9 54)] ++ [(q7, zr c9 1296)] ++ [(q8, zr c9 108)]) H := hP
  have hD : va_D A ([(h0, .inr (7, [.ref q1, .ref q2, .ref q3, .int 0, .ref q4, .int 0, .ref q5, .ref q6, .ref q7, .int 0, .null, .null, .null, .null, .int 0, .int 0, .int 0, .int 0, .int 0, .int 0, .int 0, .null, .null, .int 0]))] ++ [(q1, zr c9 8)] ++ [(q2, zr c9 8)] ++ [(q3, zr c9 320)] ++ [(q4, zr c9 40)] ++ [(q5, zr c9 54)] ++ [(q6, zr c9 54)] ++ [(q7, zr c9 1296)] ++ [(q8, zr c9 108)]) := hD
  refine va_putF (D := D) (ci := 7) (v := .ref q8) (ty := .array .int) (C := RX7) (T := vwT 7) (N := nf 7) hx hb htg (cls_tg inX7) tyX7 tyX7_ok nmX7 hown hK hP hD hS 0 rfl rfl 10 (by decide) (htg (.fieldLink RX7 31 "WinkCircleModel" "images" "[I") (tg_in (p := 864) (by decide +kernel) rfl)) (fun _ h9 => h9) rfl hin rfl (by decide +kernel) rfl rfl (Nat.le_of_ble_eq_true rfl) dMo_67 (fun H locs hP hD hS => ?_)
  have hP : va_P D vwCl ([(h0, .inr (7, [.ref q1, .ref q2, .ref q3, .int 0, .ref q4, .int 0, .ref q5, .ref q6, .ref q7, .int 0, .ref q8, .null, .null, .null, .int 0, .int 0, .int 0, .int 0, .int 0, .int 0, .int 0, .null, .null, .int 0]))] ++ [(q1, zr c9 8)] ++ [(q2, zr c9 8)] ++ [(q3, zr c9 320)] ++ [(q4, zr c9 40)] ++ [(q5, zr c9 54)] ++ [(q6, zr c9 54)] ++ [(q7, zr c9 1296)] ++ [(q8, zr c9 108)]) H := hP
  have hD : va_D A ([(h0, .inr (7, [.ref q1, .ref q2, .ref q3, .int 0, .ref q4, .int 0, .ref q5, .ref q6, .ref q7, .int 0, .ref q8, .null, .null, .null, .int 0, .int 0, .int 0, .int 0, .int 0, .int 0, .int 0, .null, .null, .int 0]))] ++ [(q1, zr c9 8)] ++ [(q2, zr c9 8)] ++ [(q3, zr c9 320)] ++ [(q4, zr c9 40)] ++ [(q5, zr c9 54)] ++ [(q6, zr c9 54)] ++ [(q7, zr c9 1296)] ++ [(q8, zr c9 108)]) := hD
  refine lv_aload_n hx hb dMo_70 rfl (lv_at hl 0 rfl) ?_
  refine lv_iconst (v := nI 2) hx hb dMo_71 (by decide) ?_
  refine nA10 hx hb harr10 h10 hK hP hD hS hA (N := 2) (by decide) (Nat.le_of_ble_eq_true rfl) (Nat.le_of_ble_eq_true rfl) dMo_72 (fun q9 H hP hD hS => ?_)
  have hP : va_P D vwCl ([(h0, .inr (7, [.ref q1, .ref q2, .ref q3, .int 0, .ref q4, .int 0, .ref q5, .ref q6, .ref q7, .int 0, .ref q8, .null, .null, .null, .int 0, .int 0, .int 0, .int 0, .int 0, .int 0, .int 0, .null, .null, .int 0]))] ++ [(q1, zr c9 8)] ++ [(q2, zr c9 8)] ++ [(q3, zr c9 320)] ++ [(q4, zr c9 40)] ++ [(q5, zr c9 54)] ++ [(q6, zr c9 54)] ++ [(q7, zr c9 1296)] ++ [(q8, zr c9 108)] ++ [(q9, zr c10 2)]) H := hP
  have hD : va_D A ([(h0, .inr (7, [.ref q1, .ref q2, .ref q3, .int 0, .ref q4, .int 0, .ref q5, .ref q6, .ref q7, .int 0, .ref q8, .null, .null, .null, .int 0, .int 0, .int 0, .int 0, .int 0, .int 0, .int 0, .null, .null, .int 0]))] ++ [(q1, zr c9 8)] ++ [(q2, zr c9 8)] ++ [(q3, zr c9 320)] ++ [(q4, zr c9 40)] ++ [(q5, zr c9 54)] ++ [(q6, zr c9 54)] ++ [(q7, zr c9 1296)] ++ [(q8, zr c9 108)] ++ [(q9, zr c10 2)]) := hD
  refine va_putF (D := D) (ci := 7) (v := .ref q9) (ty := .array .boolean) (C := RX7) (T := vwT 7) (N := nf 7) hx hb htg (cls_tg inX7) tyX7 tyX7_ok nmX7 hown hK hP hD hS 0 rfl rfl 11 (by decide) (htg (.fieldLink RX7 34 "WinkCircleModel" "isKept" "[Z") (tg_in (p := 865) (by decide +kernel) rfl)) (fun _ h9 => h9) rfl hin rfl (by decide +kernel) rfl rfl (Nat.le_of_ble_eq_true rfl) dMo_74 (fun H locs hP hD hS => ?_)
  have hP : va_P D vwCl ([(h0, .inr (7, [.ref q1, .ref q2, .ref q3, .int 0, .ref q4, .int 0, .ref q5, .ref q6, .ref q7, .int 0, .ref q8, .ref q9, .null, .null, .int 0, .int 0, .int 0, .int 0, .int 0, .int 0, .int 0, .null, .null, .int 0]))] ++ [(q1, zr c9 8)] ++ [(q2, zr c9 8)] ++ [(q3, zr c9 320)] ++ [(q4, zr c9 40)] ++ [(q5, zr c9 54)] ++ [(q6, zr c9 54)] ++ [(q7, zr c9 1296)] ++ [(q8, zr c9 108)] ++ [(q9, zr c10 2)]) H := hP
  have hD : va_D A ([(h0, .inr (7, [.ref q1, .ref q2, .ref q3, .int 0, .ref q4, .int 0, .ref q5, .ref q6, .ref q7, .int 0, .ref q8, .ref q9, .null, .null, .int 0, .int 0, .int 0, .int 0, .int 0, .int 0, .int 0, .null, .null, .int 0]))] ++ [(q1, zr c9 8)] ++ [(q2, zr c9 8)] ++ [(q3, zr c9 320)] ++ [(q4, zr c9 40)] ++ [(q5, zr c9 54)] ++ [(q6, zr c9 54)] ++ [(q7, zr c9 1296)] ++ [(q8, zr c9 108)] ++ [(q9, zr c10 2)]) := hD
  refine lv_aload_n hx hb dMo_77 rfl (lv_at hl 0 rfl) ?_
  refine lv_bipush (v := nI 8) hx hb dMo_78 (by decide) ?_
  refine nA9 hx hb harr h9 hK hP hD hS hA (N := 8) (by decide) (Nat.le_of_ble_eq_true rfl) (Nat.le_of_ble_eq_true rfl) dMo_80 (fun q10 H hP hD hS => ?_)
  have hP : va_P D vwCl ([(h0, .inr (7, [.ref q1, .ref q2, .ref q3, .int 0, .ref q4, .int 0, .ref q5, .ref q6, .ref q7, .int 0, .ref q8, .ref q9, .null, .null, .int 0, .int 0, .int 0, .int 0, .int 0, .int 0, .int 0, .null, .null, .int 0]))] ++ [(q1, zr c9 8)] ++ [(q2, zr c9 8)] ++ [(q3, zr c9 320)] ++ [(q4, zr c9 40)] ++ [(q5, zr c9 54)] ++ [(q6, zr c9 54)] ++ [(q7, zr c9 1296)] ++ [(q8, zr c9 108)] ++ [(q9, zr c10 2)] ++ [(q10, zr c9 8)]) H := hP
  have hD : va_D A ([(h0, .inr (7, [.ref q1, .ref q2, .ref q3, .int 0, .ref q4, .int 0, .ref q5, .ref q6, .ref q7, .int 0, .ref q8, .ref q9, .null, .null, .int 0, .int 0, .int 0, .int 0, .int 0, .int 0, .int 0, .null, .null, .int 0]))] ++ [(q1, zr c9 8)] ++ [(q2, zr c9 8)] ++ [(q3, zr c9 320)] ++ [(q4, zr c9 40)] ++ [(q5, zr c9 54)] ++ [(q6, zr c9 54)] ++ [(q7, zr c9 1296)] ++ [(q8, zr c9 108)] ++ [(q9, zr c10 2)] ++ [(q10, zr c9 8)]) := hD
  refine va_putF (D := D) (ci := 7) (v := .ref q10) (ty := .array .int) (C := RX7) (T := vwT 7) (N := nf 7) hx hb htg (cls_tg inX7) tyX7 tyX7_ok nmX7 hown hK hP hD hS 0 rfl rfl 12 (by decide) (htg (.fieldLink RX7 38 "WinkCircleModel" "looks" "[I") (tg_in (p := 866) (by decide +kernel) rfl)) (fun _ h9 => h9) rfl hin rfl (by decide +kernel) rfl rfl (Nat.le_of_ble_eq_true rfl) dMo_82 (fun H locs hP hD hS => ?_)
  have hP : va_P D vwCl ([(h0, .inr (7, [.ref q1, .ref q2, .ref q3, .int 0, .ref q4, .int 0, .ref q5, .ref q6, .ref q7, .int 0, .ref q8, .ref q9, .ref q10, .null, .int 0, .int 0, .int 0, .int 0, .int 0, .int 0, .int 0, .null, .null, .int 0]))] ++ [(q1, zr c9 8)] ++ [(q2, zr c9 8)] ++ [(q3, zr c9 320)] ++ [(q4, zr c9 40)] ++ [(q5, zr c9 54)] ++ [(q6, zr c9 54)] ++ [(q7, zr c9 1296)] ++ [(q8, zr c9 108)] ++ [(q9, zr c10 2)] ++ [(q10, zr c9 8)]) H := hP
  have hD : va_D A ([(h0, .inr (7, [.ref q1, .ref q2, .ref q3, .int 0, .ref q4, .int 0, .ref q5, .ref q6, .ref q7, .int 0, .ref q8, .ref q9, .ref q10, .null, .int 0, .int 0, .int 0, .int 0, .int 0, .int 0, .int 0, .null, .null, .int 0]))] ++ [(q1, zr c9 8)] ++ [(q2, zr c9 8)] ++ [(q3, zr c9 320)] ++ [(q4, zr c9 40)] ++ [(q5, zr c9 54)] ++ [(q6, zr c9 54)] ++ [(q7, zr c9 1296)] ++ [(q8, zr c9 108)] ++ [(q9, zr c10 2)] ++ [(q10, zr c9 8)]) := hD
  refine lv_aload_n hx hb dMo_85 rfl (lv_at hl 0 rfl) ?_
  refine lv_bipush (v := nI 100) hx hb dMo_86 (by decide) ?_
  refine nA8 hx hb harr8 h8 hK hP hD hS hA (N := 100) (by decide) (Nat.le_of_ble_eq_true rfl) (Nat.le_of_ble_eq_true rfl) dMo_88 (fun q11 H hP hD hS => ?_)
  have hP : va_P D vwCl ([(h0, .inr (7, [.ref q1, .ref q2, .ref q3, .int 0, .ref q4, .int 0, .ref q5, .ref q6, .ref q7, .int 0, .ref q8, .ref q9, .ref q10, .null, .int 0, .int 0, .int 0, .int 0, .int 0, .int 0, .int 0, .null, .null, .int 0]))] ++ [(q1, zr c9 8)] ++ [(q2, zr c9 8)] ++ [(q3, zr c9 320)] ++ [(q4, zr c9 40)] ++ [(q5, zr c9 54)] ++ [(q6, zr c9 54)] ++ [(q7, zr c9 1296)] ++ [(q8, zr c9 108)] ++ [(q9, zr c10 2)] ++ [(q10, zr c9 8)] ++ [(q11, zr c8 100)]) H := hP
  have hD : va_D A ([(h0, .inr (7, [.ref q1, .ref q2, .ref q3, .int 0, .ref q4, .int 0, .ref q5, .ref q6, .ref q7, .int 0, .ref q8, .ref q9, .ref q10, .null, .int 0, .int 0, .int 0, .int 0, .int 0, .int 0, .int 0, .null, .null, .int 0]))] ++ [(q1, zr c9 8)] ++ [(q2, zr c9 8)] ++ [(q3, zr c9 320)] ++ [(q4, zr c9 40)] ++ [(q5, zr c9 54)] ++ [(q6, zr c9 54)] ++ [(q7, zr c9 1296)] ++ [(q8, zr c9 108)] ++ [(q9, zr c10 2)] ++ [(q10, zr c9 8)] ++ [(q11, zr c8 100)]) := hD
  refine va_putF (D := D) (ci := 7) (v := .ref q11) (ty := .array .byte) (C := RX7) (T := vwT 7) (N := nf 7) hx hb htg (cls_tg inX7) tyX7 tyX7_ok nmX7 hown hK hP hD hS 0 rfl rfl 13 (by decide) (htg (.fieldLink RX7 41 "WinkCircleModel" "tape" "[B") (tg_in (p := 867) (by decide +kernel) rfl)) (fun _ h9 => h9) rfl hin rfl (by decide +kernel) rfl rfl (Nat.le_of_ble_eq_true rfl) dMo_90 (fun H locs hP hD hS => ?_)
  have hP : va_P D vwCl ([(h0, .inr (7, [.ref q1, .ref q2, .ref q3, .int 0, .ref q4, .int 0, .ref q5, .ref q6, .ref q7, .int 0, .ref q8, .ref q9, .ref q10, .ref q11, .int 0, .int 0, .int 0, .int 0, .int 0, .int 0, .int 0, .null, .null, .int 0]))] ++ [(q1, zr c9 8)] ++ [(q2, zr c9 8)] ++ [(q3, zr c9 320)] ++ [(q4, zr c9 40)] ++ [(q5, zr c9 54)] ++ [(q6, zr c9 54)] ++ [(q7, zr c9 1296)] ++ [(q8, zr c9 108)] ++ [(q9, zr c10 2)] ++ [(q10, zr c9 8)] ++ [(q11, zr c8 100)]) H := hP
  have hD : va_D A ([(h0, .inr (7, [.ref q1, .ref q2, .ref q3, .int 0, .ref q4, .int 0, .ref q5, .ref q6, .ref q7, .int 0, .ref q8, .ref q9, .ref q10, .ref q11, .int 0, .int 0, .int 0, .int 0, .int 0, .int 0, .int 0, .null, .null, .int 0]))] ++ [(q1, zr c9 8)] ++ [(q2, zr c9 8)] ++ [(q3, zr c9 320)] ++ [(q4, zr c9 40)] ++ [(q5, zr c9 54)] ++ [(q6, zr c9 54)] ++ [(q7, zr c9 1296)] ++ [(q8, zr c9 108)] ++ [(q9, zr c10 2)] ++ [(q10, zr c9 8)] ++ [(q11, zr c8 100)]) := hD
  refine lv_aload_n hx hb dMo_93 rfl (lv_at hl 0 rfl) ?_
  refine lv_sipush (v := nI 512) hx hb dMo_94 (by decide) ?_
  refine nA9 hx hb harr h9 hK hP hD hS hA (N := 512) (by decide) (Nat.le_of_ble_eq_true rfl) (Nat.le_of_ble_eq_true rfl) dMo_97 (fun q12 H hP hD hS => ?_)
  have hP : va_P D vwCl ([(h0, .inr (7, [.ref q1, .ref q2, .ref q3, .int 0, .ref q4, .int 0, .ref q5, .ref q6, .ref q7, .int 0, .ref q8, .ref q9, .ref q10, .ref q11, .int 0, .int 0, .int 0, .int 0, .int 0, .int 0, .int 0, .null, .null, .int 0]))] ++ [(q1, zr c9 8)] ++ [(q2, zr c9 8)] ++ [(q3, zr c9 320)] ++ [(q4, zr c9 40)] ++ [(q5, zr c9 54)] ++ [(q6, zr c9 54)] ++ [(q7, zr c9 1296)] ++ [(q8, zr c9 108)] ++ [(q9, zr c10 2)] ++ [(q10, zr c9 8)] ++ [(q11, zr c8 100)] ++ [(q12, zr c9 512)]) H := hP
  have hD : va_D A ([(h0, .inr (7, [.ref q1, .ref q2, .ref q3, .int 0, .ref q4, .int 0, .ref q5, .ref q6, .ref q7, .int 0, .ref q8, .ref q9, .ref q10, .ref q11, .int 0, .int 0, .int 0, .int 0, .int 0, .int 0, .int 0, .null, .null, .int 0]))] ++ [(q1, zr c9 8)] ++ [(q2, zr c9 8)] ++ [(q3, zr c9 320)] ++ [(q4, zr c9 40)] ++ [(q5, zr c9 54)] ++ [(q6, zr c9 54)] ++ [(q7, zr c9 1296)] ++ [(q8, zr c9 108)] ++ [(q9, zr c10 2)] ++ [(q10, zr c9 8)] ++ [(q11, zr c8 100)] ++ [(q12, zr c9 512)]) := hD
  refine va_putF (D := D) (ci := 7) (v := .ref q12) (ty := .array .int) (C := RX7) (T := vwT 7) (N := nf 7) hx hb htg (cls_tg inX7) tyX7 tyX7_ok nmX7 hown hK hP hD hS 0 rfl rfl 21 (by decide) (htg (.fieldLink RX7 45 "WinkCircleModel" "comes" "[I") (tg_in (p := 875) (by decide +kernel) rfl)) (fun _ h9 => h9) rfl hin rfl (by decide +kernel) rfl rfl (Nat.le_of_ble_eq_true rfl) dMo_99 (fun H locs hP hD hS => ?_)
  have hP : va_P D vwCl ([(h0, .inr (7, [.ref q1, .ref q2, .ref q3, .int 0, .ref q4, .int 0, .ref q5, .ref q6, .ref q7, .int 0, .ref q8, .ref q9, .ref q10, .ref q11, .int 0, .int 0, .int 0, .int 0, .int 0, .int 0, .int 0, .ref q12, .null, .int 0]))] ++ [(q1, zr c9 8)] ++ [(q2, zr c9 8)] ++ [(q3, zr c9 320)] ++ [(q4, zr c9 40)] ++ [(q5, zr c9 54)] ++ [(q6, zr c9 54)] ++ [(q7, zr c9 1296)] ++ [(q8, zr c9 108)] ++ [(q9, zr c10 2)] ++ [(q10, zr c9 8)] ++ [(q11, zr c8 100)] ++ [(q12, zr c9 512)]) H := hP
  have hD : va_D A ([(h0, .inr (7, [.ref q1, .ref q2, .ref q3, .int 0, .ref q4, .int 0, .ref q5, .ref q6, .ref q7, .int 0, .ref q8, .ref q9, .ref q10, .ref q11, .int 0, .int 0, .int 0, .int 0, .int 0, .int 0, .int 0, .ref q12, .null, .int 0]))] ++ [(q1, zr c9 8)] ++ [(q2, zr c9 8)] ++ [(q3, zr c9 320)] ++ [(q4, zr c9 40)] ++ [(q5, zr c9 54)] ++ [(q6, zr c9 54)] ++ [(q7, zr c9 1296)] ++ [(q8, zr c9 108)] ++ [(q9, zr c10 2)] ++ [(q10, zr c9 8)] ++ [(q11, zr c8 100)] ++ [(q12, zr c9 512)]) := hD
  refine lv_aload_n hx hb dMo_102 rfl (lv_at hl 0 rfl) ?_
  refine lv_bipush (v := nI 16) hx hb dMo_103 (by decide) ?_
  refine nA9 hx hb harr h9 hK hP hD hS hA (N := 16) (by decide) (Nat.le_of_ble_eq_true rfl) (Nat.le_of_ble_eq_true rfl) dMo_105 (fun q13 H hP hD hS => ?_)
  have hP : va_P D vwCl ([(h0, .inr (7, [.ref q1, .ref q2, .ref q3, .int 0, .ref q4, .int 0, .ref q5, .ref q6, .ref q7, .int 0, .ref q8, .ref q9, .ref q10, .ref q11, .int 0, .int 0, .int 0, .int 0, .int 0, .int 0, .int 0, .ref q12, .null, .int 0]))] ++ [(q1, zr c9 8)] ++ [(q2, zr c9 8)] ++ [(q3, zr c9 320)] ++ [(q4, zr c9 40)] ++ [(q5, zr c9 54)] ++ [(q6, zr c9 54)] ++ [(q7, zr c9 1296)] ++ [(q8, zr c9 108)] ++ [(q9, zr c10 2)] ++ [(q10, zr c9 8)] ++ [(q11, zr c8 100)] ++ [(q12, zr c9 512)] ++ [(q13, zr c9 16)]) H := hP
  have hD : va_D A ([(h0, .inr (7, [.ref q1, .ref q2, .ref q3, .int 0, .ref q4, .int 0, .ref q5, .ref q6, .ref q7, .int 0, .ref q8, .ref q9, .ref q10, .ref q11, .int 0, .int 0, .int 0, .int 0, .int 0, .int 0, .int 0, .ref q12, .null, .int 0]))] ++ [(q1, zr c9 8)] ++ [(q2, zr c9 8)] ++ [(q3, zr c9 320)] ++ [(q4, zr c9 40)] ++ [(q5, zr c9 54)] ++ [(q6, zr c9 54)] ++ [(q7, zr c9 1296)] ++ [(q8, zr c9 108)] ++ [(q9, zr c10 2)] ++ [(q10, zr c9 8)] ++ [(q11, zr c8 100)] ++ [(q12, zr c9 512)] ++ [(q13, zr c9 16)]) := hD
  refine va_putF (D := D) (ci := 7) (v := .ref q13) (ty := .array .int) (C := RX7) (T := vwT 7) (N := nf 7) hx hb htg (cls_tg inX7) tyX7 tyX7_ok nmX7 hown hK hP hD hS 0 rfl rfl 22 (by decide) (htg (.fieldLink RX7 48 "WinkCircleModel" "trace" "[I") (tg_in (p := 876) (by decide +kernel) rfl)) (fun _ h9 => h9) rfl hin rfl (by decide +kernel) rfl rfl (Nat.le_of_ble_eq_true rfl) dMo_107 (fun H locs hP hD hS => ?_)
  have hP : va_P D vwCl ([(h0, .inr (7, [.ref q1, .ref q2, .ref q3, .int 0, .ref q4, .int 0, .ref q5, .ref q6, .ref q7, .int 0, .ref q8, .ref q9, .ref q10, .ref q11, .int 0, .int 0, .int 0, .int 0, .int 0, .int 0, .int 0, .ref q12, .ref q13, .int 0]))] ++ [(q1, zr c9 8)] ++ [(q2, zr c9 8)] ++ [(q3, zr c9 320)] ++ [(q4, zr c9 40)] ++ [(q5, zr c9 54)] ++ [(q6, zr c9 54)] ++ [(q7, zr c9 1296)] ++ [(q8, zr c9 108)] ++ [(q9, zr c10 2)] ++ [(q10, zr c9 8)] ++ [(q11, zr c8 100)] ++ [(q12, zr c9 512)] ++ [(q13, zr c9 16)]) H := hP
  have hD : va_D A ([(h0, .inr (7, [.ref q1, .ref q2, .ref q3, .int 0, .ref q4, .int 0, .ref q5, .ref q6, .ref q7, .int 0, .ref q8, .ref q9, .ref q10, .ref q11, .int 0, .int 0, .int 0, .int 0, .int 0, .int 0, .int 0, .ref q12, .ref q13, .int 0]))] ++ [(q1, zr c9 8)] ++ [(q2, zr c9 8)] ++ [(q3, zr c9 320)] ++ [(q4, zr c9 40)] ++ [(q5, zr c9 54)] ++ [(q6, zr c9 54)] ++ [(q7, zr c9 1296)] ++ [(q8, zr c9 108)] ++ [(q9, zr c10 2)] ++ [(q10, zr c9 8)] ++ [(q11, zr c8 100)] ++ [(q12, zr c9 512)] ++ [(q13, zr c9 16)]) := hD
  have hP : va_P D vwCl ([(h0, .inr (7, [.ref q1, .ref q2, .ref q3, .int 0, .ref q4, .int 0, .ref q5, .ref q6, .ref q7, .int 0, .ref q8, .ref q9, .ref q10, .ref q11, .int 0, .int 0, .int 0, .int 0, .int 0, .int 0, .int 0, .ref q12, .ref q13, .int 0]))] ++ ([(q1, zr c9 8)] ++ [(q2, zr c9 8), (q3, zr c9 320), (q4, zr c9 40), (q5, zr c9 54), (q6, zr c9 54), (q7, zr c9 1296), (q8, zr c9 108), (q9, zr c10 2), (q10, zr c9 8), (q11, zr c8 100), (q12, zr c9 512), (q13, zr c9 16)])) H := hP
  have hD : va_D A ([(h0, .inr (7, [.ref q1, .ref q2, .ref q3, .int 0, .ref q4, .int 0, .ref q5, .ref q6, .ref q7, .int 0, .ref q8, .ref q9, .ref q10, .ref q11, .int 0, .int 0, .int 0, .int 0, .int 0, .int 0, .int 0, .ref q12, .ref q13, .int 0]))] ++ ([(q1, zr c9 8)] ++ [(q2, zr c9 8), (q3, zr c9 320), (q4, zr c9 40), (q5, zr c9 54), (q6, zr c9 54), (q7, zr c9 1296), (q8, zr c9 108), (q9, zr c10 2), (q10, zr c9 8), (q11, zr c8 100), (q12, zr c9 512), (q13, zr c9 16)])) := hD
  have l0 : lnF 0 = fun _ => 0 := funext fun j => if_neg (Nat.not_lt_zero j)
  refine lv_iconst (v := nI 0) hx hb dMo_110 (by decide) ?_
  refine lv_istore_n (lv' := [(1, .int (nI 0)), (0, .ref h0)]) hx hb dMo_111 rfl hl (by decide) rfl (fun ls hl => ?_)
  refine moLoop hx hb hown htg hK ht (fun H locs ls hP hD hS => ?_) 8 0 H locs ls (by decide) (by rw [l0]; exact hP) (by rw [l0]; exact hD) hS hl
  exact W.vret hx hb hr (fun t ht hW => ⟨⟨(fun i => [0, q1, q2, q3, q4, q5, q6, q7, q8, q9, q10, q11, q12, q13].getD i 0), rfl, trivial, by rw [ht]; exact hP, hD⟩, hS.F ht⟩) hS.2.2 dMo_131
