def yRo : MethodName := ⟨"WinkCircle$Rows", "<init>", "()V"⟩
abbrev bRo : ByteArray := prog_5_method_1_code
def wRo : List Cond := .code yRo bRo 2 none :: tg
def oRo : va_E := .inr (3, [.null, .null, .null])
theorem dRo_0 : decode bRo 0 = .ok (.aload_n 0, 1) := by decide +kernel
theorem dRo_1 : decode bRo 1 = .ok (.invokespecial 3, 3) := by decide +kernel
theorem dRo_4 : decode bRo 4 = .ok (.aload_n 0, 1) := by decide +kernel
theorem dRo_5 : decode bRo 5 = .ok (.bipush 8, 2) := by decide +kernel
theorem dRo_7 : decode bRo 7 = .ok (.bipush 40, 2) := by decide +kernel
theorem dRo_9 : decode bRo 9 = .ok (.multianewarray 11 2, 4) := by decide +kernel
theorem dRo_13 : decode bRo 13 = .ok (.putfield 13, 3) := by decide +kernel
theorem dRo_16 : decode bRo 16 = .ok (.aload_n 0, 1) := by decide +kernel
theorem dRo_17 : decode bRo 17 = .ok (.bipush 8, 2) := by decide +kernel
theorem dRo_19 : decode bRo 19 = .ok (.newarray .int, 2) := by decide +kernel
theorem dRo_21 : decode bRo 21 = .ok (.putfield 16, 3) := by decide +kernel
theorem dRo_24 : decode bRo 24 = .ok (.aload_n 0, 1) := by decide +kernel
theorem dRo_25 : decode bRo 25 = .ok (.bipush 8, 2) := by decide +kernel
theorem dRo_27 : decode bRo 27 = .ok (.newarray .int, 2) := by decide +kernel
theorem dRo_29 : decode bRo 29 = .ok (.putfield 20, 3) := by decide +kernel
theorem dRo_32 : decode bRo 32 = .ok (.iconst 0, 1) := by decide +kernel
theorem dRo_33 : decode bRo 33 = .ok (.istore_n 1, 1) := by decide +kernel
theorem dRo_34 : decode bRo 34 = .ok (.iload_n 1, 1) := by decide +kernel
theorem dRo_35 : decode bRo 35 = .ok (.bipush 8, 2) := by decide +kernel
theorem dRo_37 : decode bRo 37 = .ok (.if_icmp .ge 16, 3) := by decide +kernel
theorem dRo_40 : decode bRo 40 = .ok (.aload_n 0, 1) := by decide +kernel
theorem dRo_41 : decode bRo 41 = .ok (.getfield 20, 3) := by decide +kernel
theorem dRo_44 : decode bRo 44 = .ok (.iload_n 1, 1) := by decide +kernel
theorem dRo_45 : decode bRo 45 = .ok (.iconst (-1), 1) := by decide +kernel
theorem dRo_46 : decode bRo 46 = .ok (.iastore, 1) := by decide +kernel
theorem dRo_47 : decode bRo 47 = .ok (.iinc 1 1, 3) := by decide +kernel
theorem dRo_50 : decode bRo 50 = .ok (.goto (-16), 3) := by decide +kernel
theorem dRo_53 : decode bRo 53 = .ok (.return_, 1) := by decide +kernel
section
variable {p : Program} {l : Launch} {e : Env} {R : Room} {s : State} {m : MethodId} {args : Array Value} {below : List Frame} {meth : Method} {c : Code} {cells slots : Nat} {Q : State → Prop} {D : va_G} {A : Nat → Prop} {tys : List (ClassId × FieldType)}
theorem roLoop {c9 c12 : ClassId} {h0 q1 q2 q3 : Nat} {H0 : Heap} (hx : p.tables.exec = Jvm.exec) (hb : c.code = bRo) (hown : s.vm.findClass RX3 = some m.cls) (htg : ∀ w ∈ tg, w.before args s = true) (hK : va_K D vwCl tys s) (ht : tys[1]? = some (c9, .int))
    (fin : ∀ (H : Heap) (locs : List Loc) (ls : Array Slot), va_P D vwCl ([(h0, .inr (3, [.ref q1, .ref q2, .ref q3]))] ++ rowsW c9 c12 q1 ++ [(q2, zr c9 8)] ++ [(q3, .inl (c9, 8, .inl (lnF 8)))]) H → va_D A ([(h0, .inr (3, [.ref q1, .ref q2, .ref q3]))] ++ rowsW c9 c12 q1 ++ [(q2, zr c9 8)] ++ [(q3, .inl (c9, 8, .inl (lnF 8)))]) → va_S A H0 H locs → W p l e R s m args below meth c H locs cells slots Q (F0 m 53 ls [])) :
    ∀ (n i : Nat) (H : Heap) (locs : List Loc) (ls : Array Slot), i + n = 8 → va_P D vwCl ([(h0, .inr (3, [.ref q1, .ref q2, .ref q3]))] ++ rowsW c9 c12 q1 ++ [(q2, zr c9 8)] ++ [(q3, .inl (c9, 8, .inl (lnF i)))]) H → va_D A ([(h0, .inr (3, [.ref q1, .ref q2, .ref q3]))] ++ rowsW c9 c12 q1 ++ [(q2, zr c9 8)] ++ [(q3, .inl (c9, 8, .inl (lnF i)))]) → va_S A H0 H locs → lv_has ls 2 [(1, .int (nI i)), (0, .ref h0)] → W p l e R s m args below meth c H locs cells slots Q (F0 m 34 ls []) := by
  intro n
  induction n with
  | zero =>
    intro i H locs ls hi hP hD hS hl
    have h8 : i = 8 := by omega
    subst h8
    refine lv_iload_n hx hb dRo_34 rfl (lv_at hl 0 rfl) ?_
    refine lv_bipush (v := nI 8) hx hb dRo_35 (by decide) ?_
    refine lv_icmp_ge (tgt := 53) hx hb dRo_37 (by decide) (fun _ => ?_) (fun z => absurd (by decide) z)
    exact fin H locs ls hP hD hS
  | succ n ih =>
    intro i H locs ls hi hP hD hS hl
    refine lv_iload_n hx hb dRo_34 rfl (lv_at hl 0 rfl) ?_
    refine lv_bipush (v := nI 8) hx hb dRo_35 (by decide) ?_
    refine lv_icmp_ge (tgt := 53) hx hb dRo_37 (by decide) (fun z => absurd ((nI_leI (by omega) (by omega)).1 z) (by omega)) (fun _ => ?_)
    refine lv_aload_n hx hb dRo_40 rfl (lv_at hl 1 rfl) ?_
    refine va_get (v := .ref q3) (C := RX3) (T := vwT 3) (N := nf 3) hx hb htg (cls_tg inX3) hown hK hP 0 rfl rfl 2 (by decide) (htg (.fieldLink RX3 20 "WinkCircle$Rows" "size" "[I") (tg_in (p := 84) (by decide +kernel) rfl)) (fun _ h9 => h9) rfl dRo_41 ?_
    refine lv_iload_n hx hb dRo_44 rfl (lv_at hl 0 rfl) ?_
    refine lv_iconst (v := c_m1) hx hb dRo_45 c_m1_e.symm ?_
    refine va_iast hx hb hK hP hD hS 11 1 rfl ht (vp_in_nI (show i < 8 by omega) (by decide)) dRo_46 (fun H1 locs1 hP1 hD1 hS1 => ?_)
    have hu : upd (lnF i) (nI i).toNatClampNeg c_m1 = lnF (i + 1) := by
      rw [nI_clamp (by omega)]
      funext j
      unfold upd lnF
      by_cases q : j = i
      · rw [if_pos q, if_pos (by omega)]
      · rw [if_neg q]
        by_cases q2 : j < i
        · rw [if_pos q2, if_pos (by omega)]
        · rw [if_neg q2, if_neg (by omega)]
    rw [hu] at hP1 hD1
    refine lv_iinc (v := nI (i + 1)) (lv' := [(1, .int (nI (i + 1))), (0, .ref h0)]) hx hb dRo_47 hl (k := 0) rfl (by rw [← nI_add]; rfl) (by decide) rfl (fun ls hl => ?_)
    refine lv_goto (tgt := 34) hx hb dRo_50 (by decide) ?_
    exact ih (i + 1) H1 locs1 ls (by omega) hP1 hD1 hS1 hl
end
set_option maxHeartbeats 4000000 in
set_option maxRecDepth 100000 in
theorem c_Ro (l : Launch) (D : va_G) (tys : List (ClassId × FieldType)) (c9 c12 : ClassId) (ht : tys[1]? = some (c9, .int)) (h0 sz : Nat) : Met l yRo wRo ({ frames := 1, cells := 11, slots := 344, locals := 12 }) (va_Pc [.ref h0] (fun U => U.heap.size = sz ∧ va_P D vwCl [(h0, oRo)] U.heap ∧ va_K D vwCl tys U ∧ va_D (fun _ => True) [(h0, oRo)] ∧ U.vm.findClass ("[" ++ FieldType.int.toString) = some c9 ∧ eAA c9 c12 U)) (va_Qv (fun _ : Nat × Nat × Nat => True) (fun u t => va_P D vwCl (([(h0, .inr (3, [.ref u.1, .ref u.2.1, .ref u.2.2]))] ++ rowsW c9 c12 u.1 ++ [(u.2.1, zr c9 8)] ++ [(u.2.2, .inl (c9, 8, .inl (lnF 8)))])) t.heap ∧ va_D (va_A [(h0, oRo)] sz) (([(h0, .inr (3, [.ref u.1, .ref u.2.1, .ref u.2.2]))] ++ rowsW c9 c12 u.1 ++ [(u.2.1, zr c9 8)] ++ [(u.2.2, .inl (c9, 8, .inl (lnF 8)))]))) (va_A [(h0, oRo)] sz)) 11 344 (va_A [(h0, oRo)] sz) := by
  refine Met.ofW (cc := bRo) (maxL := 2) (ret := none) (by decide) rfl ?_
  intro p e s m args below meth c s₁ B hml hv
  obtain ⟨rfl, hsz, hP, hK, hD0, h9, hAA⟩ := hv
  have hx := B.exec
  have hb := B.bytes
  have hr := B.returns
  have hts := atoms_spec (ws := wRo) B.pre
  have hown : s.vm.findClass RX3 = some m.cls := findClass_of_methodNamed B.named
  have hlocks := B.notSynchronized
  have hin : meth.name = "<init>" := (name_of_methodNamed B.named B.method).1
  have htg : ∀ q ∈ tg, q.before _ s = true := fun q hq => hts q (List.mem_cons_of_mem _ hq)
  subst hsz
  have hD := hD0.self (sz := s.heap.size)
  generalize hAe : va_A [(h0, oRo)] s.heap.size = A at hD ⊢
  have hA : ∀ q : Nat, s.heap.size ≤ q → A q := fun q h => by rw [← hAe]; exact Or.inr h
  have hS : va_S A s.heap s.heap [] := va_S.rf
  have hl := lv_entry ([.ref h0]) (n := 2) (Nat.le_of_ble_eq_true rfl)
  rw [lg_entry_eq]
  generalize (lg_sl ([.ref h0]) ++ List.replicate (2 - (lg_sl ([.ref h0])).length) Slot.unset).toArray = ls at hl ⊢
  have hl : lv_has ls 2 [(0, .ref h0)] := hl
  have harr : (Cond.arrayClass .int).before _ s = true := (htg (.arrayClass .int) (tg_in (p := 92) (by decide +kernel) rfl))
  refine lv_aload_n hx hb dRo_0 rfl (lv_at hl 0 rfl) ?_
  refine W.objInit hx hb hown (htg (.methodLink RX3 3 objectInit) (tg_in (p := 79) (by decide +kernel) rfl)) (htg (.instanceMethod objectInit) (tg_in (p := 72) (by decide +kernel) rfl)) (htg (.code objectInit ⟨#[0xb1]⟩ 1 none) (tg_in (p := 73) (by decide +kernel) rfl)) rfl (by rw [hml]; exact hl.1) rfl dRo_1 (Nat.le_of_ble_eq_true rfl) (Nat.le_of_ble_eq_true rfl) ?_
  refine W.eq (g2 := F0 m 4 ls []) rfl ?_
  have hP : va_P D vwCl ([(h0, .inr (3, [.null, .null, .null]))]) s.heap := hP
  have hD : va_D A ([(h0, .inr (3, [.null, .null, .null]))]) := hD
  refine lv_aload_n hx hb dRo_4 rfl (lv_at hl 0 rfl) ?_
  refine lv_bipush (v := nI 8) hx hb dRo_5 (by decide) ?_
  refine lv_bipush (v := nI 40) hx hb dRo_7 (by decide) ?_
  refine nMA (c9 := c9) (c12 := c12) hx hb hown (htg (.classLink RX3 11 "[[I") (tg_in (p := 80) (by decide +kernel) rfl)) hAA hP hD hS hA (Nat.le_of_ble_eq_true rfl) (Nat.le_of_ble_eq_true rfl) dRo_9 (fun q1 H locs hP hD hS => ?_)
  have hP : va_P D vwCl ([(h0, .inr (3, [.null, .null, .null]))] ++ rowsW c9 c12 q1) H := hP
  have hD : va_D A ([(h0, .inr (3, [.null, .null, .null]))] ++ rowsW c9 c12 q1) := hD
  refine va_putF (D := D) (ci := 3) (v := .ref q1) (ty := .array (.array .int)) (C := RX3) (T := vwT 3) (N := nf 3) hx hb htg (cls_tg inX3) tyX3 tyX3_ok nmX3 hown hK hP hD hS 0 rfl rfl 0 (by decide) (htg (.fieldLink RX3 13 "WinkCircle$Rows" "items" "[[I") (tg_in (p := 82) (by decide +kernel) rfl)) (fun _ h9 => h9) rfl hin rfl (by decide +kernel) rfl rfl (Nat.le_of_ble_eq_true rfl) dRo_13 (fun H locs hP hD hS => ?_)
  have hP : va_P D vwCl ([(h0, .inr (3, [.ref q1, .null, .null]))] ++ rowsW c9 c12 q1) H := hP
  have hD : va_D A ([(h0, .inr (3, [.ref q1, .null, .null]))] ++ rowsW c9 c12 q1) := hD
  refine lv_aload_n hx hb dRo_16 rfl (lv_at hl 0 rfl) ?_
  refine lv_bipush (v := nI 8) hx hb dRo_17 (by decide) ?_
  refine nA9 hx hb harr h9 hK hP hD hS hA (N := 8) (by decide) (Nat.le_of_ble_eq_true rfl) (Nat.le_of_ble_eq_true rfl) dRo_19 (fun q2 H hP hD hS => ?_)
  have hP : va_P D vwCl ([(h0, .inr (3, [.ref q1, .null, .null]))] ++ rowsW c9 c12 q1 ++ [(q2, zr c9 8)]) H := hP
  have hD : va_D A ([(h0, .inr (3, [.ref q1, .null, .null]))] ++ rowsW c9 c12 q1 ++ [(q2, zr c9 8)]) := hD
  refine va_putF (D := D) (ci := 3) (v := .ref q2) (ty := .array .int) (C := RX3) (T := vwT 3) (N := nf 3) hx hb htg (cls_tg inX3) tyX3 tyX3_ok nmX3 hown hK hP hD hS 0 rfl rfl 1 (by decide) (htg (.fieldLink RX3 16 "WinkCircle$Rows" "lane" "[I") (tg_in (p := 83) (by decide +kernel) rfl)) (fun _ h9 => h9) rfl hin rfl (by decide +kernel) rfl rfl (Nat.le_of_ble_eq_true rfl) dRo_21 (fun H locs hP hD hS => ?_)
  have hP : va_P D vwCl ([(h0, .inr (3, [.ref q1, .ref q2, .null]))] ++ rowsW c9 c12 q1 ++ [(q2, zr c9 8)]) H := hP
  have hD : va_D A ([(h0, .inr (3, [.ref q1, .ref q2, .null]))] ++ rowsW c9 c12 q1 ++ [(q2, zr c9 8)]) := hD
  refine lv_aload_n hx hb dRo_24 rfl (lv_at hl 0 rfl) ?_
  refine lv_bipush (v := nI 8) hx hb dRo_25 (by decide) ?_
  refine nA9 hx hb harr h9 hK hP hD hS hA (N := 8) (by decide) (Nat.le_of_ble_eq_true rfl) (Nat.le_of_ble_eq_true rfl) dRo_27 (fun q3 H hP hD hS => ?_)
  have hP : va_P D vwCl ([(h0, .inr (3, [.ref q1, .ref q2, .null]))] ++ rowsW c9 c12 q1 ++ [(q2, zr c9 8)] ++ [(q3, zr c9 8)]) H := hP
  have hD : va_D A ([(h0, .inr (3, [.ref q1, .ref q2, .null]))] ++ rowsW c9 c12 q1 ++ [(q2, zr c9 8)] ++ [(q3, zr c9 8)]) := hD
  refine va_putF (D := D) (ci := 3) (v := .ref q3) (ty := .array .int) (C := RX3) (T := vwT 3) (N := nf 3) hx hb htg (cls_tg inX3) tyX3 tyX3_ok nmX3 hown hK hP hD hS 0 rfl rfl 2 (by decide) (htg (.fieldLink RX3 20 "WinkCircle$Rows" "size" "[I") (tg_in (p := 84) (by decide +kernel) rfl)) (fun _ h9 => h9) rfl hin rfl (by decide +kernel) rfl rfl (Nat.le_of_ble_eq_true rfl) dRo_29 (fun H locs hP hD hS => ?_)
  have hP : va_P D vwCl ([(h0, .inr (3, [.ref q1, .ref q2, .ref q3]))] ++ rowsW c9 c12 q1 ++ [(q2, zr c9 8)] ++ [(q3, zr c9 8)]) H := hP
  have hD : va_D A ([(h0, .inr (3, [.ref q1, .ref q2, .ref q3]))] ++ rowsW c9 c12 q1 ++ [(q2, zr c9 8)] ++ [(q3, zr c9 8)]) := hD
  have l0 : lnF 0 = fun _ => 0 := funext fun j => if_neg (Nat.not_lt_zero j)
  refine lv_iconst (v := nI 0) hx hb dRo_32 (by decide) ?_
  refine lv_istore_n (lv' := [(1, .int (nI 0)), (0, .ref h0)]) hx hb dRo_33 rfl hl (by decide) rfl (fun ls hl => ?_)
  refine roLoop hx hb hown htg hK ht (fun H locs ls hP hD hS => ?_) 8 0 H locs ls (by decide) (by rw [l0]; exact hP) (by rw [l0]; exact hD) hS hl
  exact W.vret hx hb hr (fun t ht hW => ⟨⟨(q1, q2, q3), rfl, trivial, by rw [ht]; exact hP, hD⟩, hS.F ht⟩) hS.2.2 dRo_53
