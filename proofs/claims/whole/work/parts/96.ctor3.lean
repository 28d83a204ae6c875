def yTa : MethodName := ⟨"WinkCircle$Tape", "<init>", "()V"⟩
abbrev bTa : ByteArray := prog_7_method_1_code
def wTa : List Cond := .code yTa bTa 1 none :: tg
def oTa : va_E := .inr (5, [.null, .int 0, .int 0, .int 0])
theorem dTa_0 : decode bTa 0 = .ok (.aload_n 0, 1) := by decide +kernel
theorem dTa_1 : decode bTa 1 = .ok (.invokespecial 3, 3) := by decide +kernel
theorem dTa_4 : decode bTa 4 = .ok (.aload_n 0, 1) := by decide +kernel
theorem dTa_5 : decode bTa 5 = .ok (.bipush 100, 2) := by decide +kernel
theorem dTa_7 : decode bTa 7 = .ok (.newarray .int, 2) := by decide +kernel
theorem dTa_9 : decode bTa 9 = .ok (.putfield 11, 3) := by decide +kernel
theorem dTa_12 : decode bTa 12 = .ok (.aload_n 0, 1) := by decide +kernel
theorem dTa_13 : decode bTa 13 = .ok (.iconst 0, 1) := by decide +kernel
theorem dTa_14 : decode bTa 14 = .ok (.putfield 15, 3) := by decide +kernel
theorem dTa_17 : decode bTa 17 = .ok (.aload_n 0, 1) := by decide +kernel
theorem dTa_18 : decode bTa 18 = .ok (.iconst 0, 1) := by decide +kernel
theorem dTa_19 : decode bTa 19 = .ok (.putfield 19, 3) := by decide +kernel
theorem dTa_22 : decode bTa 22 = .ok (.aload_n 0, 1) := by decide +kernel
theorem dTa_23 : decode bTa 23 = .ok (.iconst 0, 1) := by decide +kernel
theorem dTa_24 : decode bTa 24 = .ok (.putfield 22, 3) := by decide +kernel
theorem dTa_27 : decode bTa 27 = .ok (.return_, 1) := by decide +kernel
set_option maxHeartbeats 4000000 in
set_option maxRecDepth 100000 in
theorem c_Ta (l : Launch) (D : va_G) (tys : List (ClassId × FieldType)) (c9 : ClassId) (h0 sz : Nat) : Met l yTa wTa ({ frames := 1, cells := 1, slots := 100, locals := 12 }) (va_Pc [.ref h0] (fun U => U.heap.size = sz ∧ va_P D vwCl [(h0, oTa)] U.heap ∧ va_K D vwCl tys U ∧ va_D (fun _ => True) [(h0, oTa)] ∧ U.vm.findClass ("[" ++ FieldType.int.toString) = some c9)) (va_Qv (fun _ : Nat => True) (fun u t => va_P D vwCl ([(h0, .inr (5, [.ref u, .int 0, .int 0, .int 0]))] ++ [(u, zr c9 100)]) t.heap ∧ va_D (va_A [(h0, oTa)] sz) ([(h0, .inr (5, [.ref u, .int 0, .int 0, .int 0]))] ++ [(u, zr c9 100)])) (va_A [(h0, oTa)] sz)) 1 100 (va_A [(h0, oTa)] sz) := by
  refine Met.ofW (cc := bTa) (maxL := 1) (ret := none) (by decide) rfl ?_
  intro p e s m args below meth c s₁ B hml hv
  obtain ⟨rfl, hsz, hP, hK, hD0, h9⟩ := hv
  have hx := B.exec
  have hb := B.bytes
  have hr := B.returns
  have hts := atoms_spec (ws := wTa) B.pre
  have hown : s.vm.findClass RX5 = some m.cls := findClass_of_methodNamed B.named
  have hlocks := B.notSynchronized
  have hin : meth.name = "<init>" := (name_of_methodNamed B.named B.method).1
  have htg : ∀ q ∈ tg, q.before _ s = true := fun q hq => hts q (List.mem_cons_of_mem _ hq)
  subst hsz
  have hD := hD0.self (sz := s.heap.size)
  generalize hAe : va_A [(h0, oTa)] s.heap.size = A at hD ⊢
  have hA : ∀ q : Nat, s.heap.size ≤ q → A q := fun q h => by rw [← hAe]; exact Or.inr h
  have hS : va_S A s.heap s.heap [] := va_S.rf
  have hl := lv_entry ([.ref h0]) (n := 1) (Nat.le_of_ble_eq_true rfl)
  rw [lg_entry_eq]
  generalize (lg_sl ([.ref h0]) ++ List.replicate (1 - (lg_sl ([.ref h0])).length) Slot.unset).toArray = ls at hl ⊢
  have hl : lv_has ls 1 [(0, .ref h0)] := hl
  have harr : (Cond.arrayClass .int).before _ s = true := (htg (.arrayClass .int) (tg_in (p := 92) (by decide +kernel) rfl))
  refine lv_aload_n hx hb dTa_0 rfl (lv_at hl 0 rfl) ?_
  refine W.objInit hx hb hown (htg (.methodLink RX5 3 objectInit) (tg_in (p := 98) (by decide +kernel) rfl)) (htg (.instanceMethod objectInit) (tg_in (p := 72) (by decide +kernel) rfl)) (htg (.code objectInit ⟨#[0xb1]⟩ 1 none) (tg_in (p := 73) (by decide +kernel) rfl)) rfl (by rw [hml]; exact hl.1) rfl dTa_1 (Nat.le_of_ble_eq_true rfl) (Nat.le_of_ble_eq_true rfl) ?_
  refine W.eq (g2 := F0 m 4 ls []) rfl ?_
  have hP : va_P D vwCl ([(h0, .inr (5, [.null, .int 0, .int 0, .int 0]))]) s.heap := hP
  have hD : va_D A ([(h0, .inr (5, [.null, .int 0, .int 0, .int 0]))]) := hD
  refine lv_aload_n hx hb dTa_4 rfl (lv_at hl 0 rfl) ?_
  refine lv_bipush (v := nI 100) hx hb dTa_5 (by decide) ?_
  refine nA9 hx hb harr h9 hK hP hD hS hA (N := 100) (by decide) (Nat.le_of_ble_eq_true rfl) (Nat.le_of_ble_eq_true rfl) dTa_7 (fun q1 H hP hD hS => ?_)
  have hP : va_P D vwCl ([(h0, .inr (5, [.null, .int 0, .int 0, .int 0]))] ++ [(q1, zr c9 100)]) H := hP
  have hD : va_D A ([(h0, .inr (5, [.null, .int 0, .int 0, .int 0]))] ++ [(q1, zr c9 100)]) := hD
  refine va_putF (D := D) (ci := 5) (v := .ref q1) (ty := .array .int) (C := RX5) (T := vwT 5) (N := nf 5) hx hb htg (cls_tg inX5) tyX5 tyX5_ok nmX5 hown hK hP hD hS 0 rfl rfl 0 (by decide) (htg (.fieldLink RX5 11 "WinkCircle$Tape" "bytes" "[I") (tg_in (p := 99) (by decide +kernel) rfl)) (fun _ h9 => h9) rfl hin rfl (by decide +kernel) rfl rfl (Nat.le_of_ble_eq_true rfl) dTa_9 (fun H locs hP hD hS => ?_)
  have hP : va_P D vwCl ([(h0, .inr (5, [.ref q1, .int 0, .int 0, .int 0]))] ++ [(q1, zr c9 100)]) H := hP
  have hD : va_D A ([(h0, .inr (5, [.ref q1, .int 0, .int 0, .int 0]))] ++ [(q1, zr c9 100)]) := hD
  refine lv_aload_n hx hb dTa_12 rfl (lv_at hl 0 rfl) ?_
  refine lv_iconst (v := 0) hx hb dTa_13 (by decide) ?_
  refine va_put (D := D) (ci := 5) (v := .int 0) (ty := .int) (C := RX5) (T := vwT 5) (N := nf 5) hx hb htg (cls_tg inX5) tyX5 tyX5_ok nmX5 hown hK hP hD hS 0 rfl rfl 1 (by decide) (htg (.fieldLink RX5 15 "WinkCircle$Tape" "used" "I") (tg_in (p := 100) (by decide +kernel) rfl)) (fun _ h9 => h9) rfl (by decide +kernel) rfl rfl (Nat.le_of_ble_eq_true rfl) dTa_14 (fun H locs hP hD hS => ?_)
  have hP : va_P D vwCl ([(h0, .inr (5, [.ref q1, .int 0, .int 0, .int 0]))] ++ [(q1, zr c9 100)]) H := hP
  have hD : va_D A ([(h0, .inr (5, [.ref q1, .int 0, .int 0, .int 0]))] ++ [(q1, zr c9 100)]) := hD
  refine lv_aload_n hx hb dTa_17 rfl (lv_at hl 0 rfl) ?_
  refine lv_iconst (v := 0) hx hb dTa_18 (by decide) ?_
  refine va_put (D := D) (ci := 5) (v := .int 0) (ty := .int) (C := RX5) (T := vwT 5) (N := nf 5) hx hb htg (cls_tg inX5) tyX5 tyX5_ok nmX5 hown hK hP hD hS 0 rfl rfl 2 (by decide) (htg (.fieldLink RX5 19 "WinkCircle$Tape" "at" "I") (tg_in (p := 101) (by decide +kernel) rfl)) (fun _ h9 => h9) rfl (by decide +kernel) rfl rfl (Nat.le_of_ble_eq_true rfl) dTa_19 (fun H locs hP hD hS => ?_)
  have hP : va_P D vwCl ([(h0, .inr (5, [.ref q1, .int 0, .int 0, .int 0]))] ++ [(q1, zr c9 100)]) H := hP
  have hD : va_D A ([(h0, .inr (5, [.ref q1, .int 0, .int 0, .int 0]))] ++ [(q1, zr c9 100)]) := hD
  refine lv_aload_n hx hb dTa_22 rfl (lv_at hl 0 rfl) ?_
  refine lv_iconst (v := 0) hx hb dTa_23 (by decide) ?_
  refine va_put (D := D) (ci := 5) (v := .int 0) (ty := .int) (C := RX5) (T := vwT 5) (N := nf 5) hx hb htg (cls_tg inX5) tyX5 tyX5_ok nmX5 hown hK hP hD hS 0 rfl rfl 3 (by decide) (htg (.fieldLink RX5 22 "WinkCircle$Tape" "fault" "I") (tg_in (p := 102) (by decide +kernel) rfl)) (fun _ h9 => h9) rfl (by decide +kernel) rfl rfl (Nat.le_of_ble_eq_true rfl) dTa_24 (fun H locs hP hD hS => ?_)
  have hP : va_P D vwCl ([(h0, .inr (5, [.ref q1, .int 0, .int 0, .int 0]))] ++ [(q1, zr c9 100)]) H := hP
  have hD : va_D A ([(h0, .inr (5, [.ref q1, .int 0, .int 0, .int 0]))] ++ [(q1, zr c9 100)]) := hD
  exact W.vret hx hb hr (fun t ht hW => ⟨⟨q1, rfl, trivial, by rw [ht]; exact hP, hD⟩, hS.F ht⟩) hS.2.2 dTa_27
def yAs : MethodName := ⟨"WinkCircle$Asks", "<init>", "()V"⟩
abbrev bAs : ByteArray := prog_3_method_1_code
def wAs : List Cond := .code yAs bAs 1 none :: tg
def oAs : va_E := .inr (1, [.null, .int 0, .int 0, .int 0, .int 0, .int 0])
theorem dAs_0 : decode bAs 0 = .ok (.aload_n 0, 1) := by decide +kernel
theorem dAs_1 : decode bAs 1 = .ok (.invokespecial 3, 3) := by decide +kernel
theorem dAs_4 : decode bAs 4 = .ok (.aload_n 0, 1) := by decide +kernel
theorem dAs_5 : decode bAs 5 = .ok (.bipush 16, 2) := by decide +kernel
theorem dAs_7 : decode bAs 7 = .ok (.newarray .int, 2) := by decide +kernel
theorem dAs_9 : decode bAs 9 = .ok (.putfield 11, 3) := by decide +kernel
theorem dAs_12 : decode bAs 12 = .ok (.aload_n 0, 1) := by decide +kernel
theorem dAs_13 : decode bAs 13 = .ok (.iconst 0, 1) := by decide +kernel
theorem dAs_14 : decode bAs 14 = .ok (.putfield 15, 3) := by decide +kernel
theorem dAs_17 : decode bAs 17 = .ok (.return_, 1) := by decide +kernel
set_option maxHeartbeats 4000000 in
set_option maxRecDepth 100000 in
theorem c_As (l : Launch) (D : va_G) (tys : List (ClassId × FieldType)) (c9 : ClassId) (h0 sz : Nat) : Met l yAs wAs ({ frames := 1, cells := 1, slots := 16, locals := 12 }) (va_Pc [.ref h0] (fun U => U.heap.size = sz ∧ va_P D vwCl [(h0, oAs)] U.heap ∧ va_K D vwCl tys U ∧ va_D (fun _ => True) [(h0, oAs)] ∧ U.vm.findClass ("[" ++ FieldType.int.toString) = some c9)) (va_Qv (fun _ : Nat => True) (fun u t => va_P D vwCl ([(h0, .inr (1, [.ref u, .int 0, .int 0, .int 0, .int 0, .int 0]))] ++ [(u, zr c9 16)]) t.heap ∧ va_D (va_A [(h0, oAs)] sz) ([(h0, .inr (1, [.ref u, .int 0, .int 0, .int 0, .int 0, .int 0]))] ++ [(u, zr c9 16)])) (va_A [(h0, oAs)] sz)) 1 16 (va_A [(h0, oAs)] sz) := by
  refine Met.ofW (cc := bAs) (maxL := 1) (ret := none) (by decide) rfl ?_
  intro p e s m args below meth c s₁ B hml hv
  obtain ⟨rfl, hsz, hP, hK, hD0, h9⟩ := hv
  have hx := B.exec
  have hb := B.bytes
  have hr := B.returns
  have hts := atoms_spec (ws := wAs) B.pre
  have hown : s.vm.findClass RX1 = some m.cls := findClass_of_methodNamed B.named
  have hlocks := B.notSynchronized
  have hin : meth.name = "<init>" := (name_of_methodNamed B.named B.method).1
  have htg : ∀ q ∈ tg, q.before _ s = true := fun q hq => hts q (List.mem_cons_of_mem _ hq)
  subst hsz
  have hD := hD0.self (sz := s.heap.size)
  generalize hAe : va_A [(h0, oAs)] s.heap.size = A at hD ⊢
  have hA : ∀ q : Nat, s.heap.size ≤ q → A q := fun q h => by rw [← hAe]; exact Or.inr h
  have hS : va_S A s.heap s.heap [] := va_S.rf
  have hl := lv_entry ([.ref h0]) (n := 1) (Nat.le_of_ble_eq_true rfl)
  rw [lg_entry_eq]
  generalize (lg_sl ([.ref h0]) ++ List.replicate (1 - (lg_sl ([.ref h0])).length) Slot.unset).toArray = ls at hl ⊢
  have hl : lv_has ls 1 [(0, .ref h0)] := hl
  have harr : (Cond.arrayClass .int).before _ s = true := (htg (.arrayClass .int) (tg_in (p := 92) (by decide +kernel) rfl))
  refine lv_aload_n hx hb dAs_0 rfl (lv_at hl 0 rfl) ?_
  refine W.objInit hx hb hown (htg (.methodLink RX1 3 objectInit) (tg_in (p := 251) (by decide +kernel) rfl)) (htg (.instanceMethod objectInit) (tg_in (p := 72) (by decide +kernel) rfl)) (htg (.code objectInit ⟨#[0xb1]⟩ 1 none) (tg_in (p := 73) (by decide +kernel) rfl)) rfl (by rw [hml]; exact hl.1) rfl dAs_1 (Nat.le_of_ble_eq_true rfl) (Nat.le_of_ble_eq_true rfl) ?_
  refine W.eq (g2 := F0 m 4 ls []) rfl ?_
  have hP : va_P D vwCl ([(h0, .inr (1, [.null, .int 0, .int 0, .int 0, .int 0, .int 0]))]) s.heap := hP
  have hD : va_D A ([(h0, .inr (1, [.null, .int 0, .int 0, .int 0, .int 0, .int 0]))]) := hD
  refine lv_aload_n hx hb dAs_4 rfl (lv_at hl 0 rfl) ?_
  refine lv_bipush (v := nI 16) hx hb dAs_5 (by decide) ?_
  refine nA9 hx hb harr h9 hK hP hD hS hA (N := 16) (by decide) (Nat.le_of_ble_eq_true rfl) (Nat.le_of_ble_eq_true rfl) dAs_7 (fun q1 H hP hD hS => ?_)
  have hP : va_P D vwCl ([(h0, .inr (1, [.null, .int 0, .int 0, .int 0, .int 0, .int 0]))] ++ [(q1, zr c9 16)]) H := hP
  have hD : va_D A ([(h0, .inr (1, [.null, .int 0, .int 0, .int 0, .int 0, .int 0]))] ++ [(q1, zr c9 16)]) := hD
  refine va_putF (D := D) (ci := 1) (v := .ref q1) (ty := .array .int) (C := RX1) (T := vwT 1) (N := nf 1) hx hb htg (cls_tg inX1) tyX1 tyX1_ok nmX1 hown hK hP hD hS 0 rfl rfl 0 (by decide) (htg (.fieldLink RX1 11 "WinkCircle$Asks" "numbers" "[I") (tg_in (p := 252) (by decide +kernel) rfl)) (fun _ h9 => h9) rfl hin rfl (by decide +kernel) rfl rfl (Nat.le_of_ble_eq_true rfl) dAs_9 (fun H locs hP hD hS => ?_)
  have hP : va_P D vwCl ([(h0, .inr (1, [.ref q1, .int 0, .int 0, .int 0, .int 0, .int 0]))] ++ [(q1, zr c9 16)]) H := hP
  have hD : va_D A ([(h0, .inr (1, [.ref q1, .int 0, .int 0, .int 0, .int 0, .int 0]))] ++ [(q1, zr c9 16)]) := hD
  refine lv_aload_n hx hb dAs_12 rfl (lv_at hl 0 rfl) ?_
  refine lv_iconst (v := 0) hx hb dAs_13 (by decide) ?_
  refine va_put (D := D) (ci := 1) (v := .int 0) (ty := .int) (C := RX1) (T := vwT 1) (N := nf 1) hx hb htg (cls_tg inX1) tyX1 tyX1_ok nmX1 hown hK hP hD hS 0 rfl rfl 1 (by decide) (htg (.fieldLink RX1 15 "WinkCircle$Asks" "used" "I") (tg_in (p := 253) (by decide +kernel) rfl)) (fun _ h9 => h9) rfl (by decide +kernel) rfl rfl (Nat.le_of_ble_eq_true rfl) dAs_14 (fun H locs hP hD hS => ?_)
  have hP : va_P D vwCl ([(h0, .inr (1, [.ref q1, .int 0, .int 0, .int 0, .int 0, .int 0]))] ++ [(q1, zr c9 16)]) H := hP
  have hD : va_D A ([(h0, .inr (1, [.ref q1, .int 0, .int 0, .int 0, .int 0, .int 0]))] ++ [(q1, zr c9 16)]) := hD
  exact W.vret hx hb hr (fun t ht hW => ⟨⟨q1, rfl, trivial, by rw [ht]; exact hP, hD⟩, hS.F ht⟩) hS.2.2 dAs_17
def ySe : MethodName := ⟨"WinkCircle$Seer", "<init>", "()V"⟩
abbrev bSe : ByteArray := prog_6_method_1_code
def wSe : List Cond := .code ySe bSe 1 none :: tg
def oSe : va_E := .inr (4, [.null, .null, .null, .int 0, .int 0, .int 0, .int 0, .int 0, .long 0, .long 0])
theorem dSe_0 : decode bSe 0 = .ok (.aload_n 0, 1) := by decide +kernel
theorem dSe_1 : decode bSe 1 = .ok (.invokespecial 3, 3) := by decide +kernel
theorem dSe_4 : decode bSe 4 = .ok (.aload_n 0, 1) := by decide +kernel
theorem dSe_5 : decode bSe 5 = .ok (.new 9, 3) := by decide +kernel
theorem dSe_8 : decode bSe 8 = .ok (.dup, 1) := by decide +kernel
theorem dSe_9 : decode bSe 9 = .ok (.invokespecial 11, 3) := by decide +kernel
theorem dSe_12 : decode bSe 12 = .ok (.putfield 12, 3) := by decide +kernel
theorem dSe_15 : decode bSe 15 = .ok (.aload_n 0, 1) := by decide +kernel
theorem dSe_16 : decode bSe 16 = .ok (.new 9, 3) := by decide +kernel
theorem dSe_19 : decode bSe 19 = .ok (.dup, 1) := by decide +kernel
theorem dSe_20 : decode bSe 20 = .ok (.invokespecial 11, 3) := by decide +kernel
theorem dSe_23 : decode bSe 23 = .ok (.putfield 18, 3) := by decide +kernel
theorem dSe_26 : decode bSe 26 = .ok (.aload_n 0, 1) := by decide +kernel
theorem dSe_27 : decode bSe 27 = .ok (.bipush 12, 2) := by decide +kernel
theorem dSe_29 : decode bSe 29 = .ok (.newarray .int, 2) := by decide +kernel
theorem dSe_31 : decode bSe 31 = .ok (.putfield 21, 3) := by decide +kernel
theorem dSe_34 : decode bSe 34 = .ok (.return_, 1) := by decide +kernel
set_option maxHeartbeats 4000000 in
set_option maxRecDepth 100000 in
theorem c_Se (l : Launch) (D : va_G) (tys : List (ClassId × FieldType)) (c9 : ClassId) (h0 sz : Nat) : Met l ySe wSe ({ frames := 2, cells := 15, slots := 132, locals := 44 }) (va_Pc [.ref h0] (fun U => U.heap.size = sz ∧ va_P D vwCl [(h0, oSe)] U.heap ∧ va_K D vwCl tys U ∧ va_D (fun _ => True) [(h0, oSe)] ∧ U.vm.findClass ("[" ++ FieldType.int.toString) = some c9)) (va_Qv (fun _ : Nat × (Nat × Nat × Nat × Nat × Nat × Nat) × Nat × (Nat × Nat × Nat × Nat × Nat × Nat) × Nat => True) (fun u t => va_P D vwCl ([(h0, .inr (4, [.ref u.1, .ref u.2.2.1, .ref u.2.2.2.2, .int 0, .int 0, .int 0, .int 0, .int 0, .long 0, .long 0]))] ++ cirW c9 u.1 u.2.1 ++ cirW c9 u.2.2.1 u.2.2.2.1 ++ [(u.2.2.2.2, zr c9 12)]) t.heap ∧ va_D (va_A [(h0, oSe)] sz) ([(h0, .inr (4, [.ref u.1, .ref u.2.2.1, .ref u.2.2.2.2, .int 0, .int 0, .int 0, .int 0, .int 0, .long 0, .long 0]))] ++ cirW c9 u.1 u.2.1 ++ cirW c9 u.2.2.1 u.2.2.2.1 ++ [(u.2.2.2.2, zr c9 12)])) (va_A [(h0, oSe)] sz)) 15 132 (va_A [(h0, oSe)] sz) := by
  refine Met.ofW (cc := bSe) (maxL := 1) (ret := none) (by decide) rfl ?_
  intro p e s m args below meth c s₁ B hml hv
  obtain ⟨rfl, hsz, hP, hK, hD0, h9⟩ := hv
  have hx := B.exec
  have hb := B.bytes
  have hr := B.returns
  have hts := atoms_spec (ws := wSe) B.pre
  have hown : s.vm.findClass RX4 = some m.cls := findClass_of_methodNamed B.named
  have hlocks := B.notSynchronized
  have hin : meth.name = "<init>" := (name_of_methodNamed B.named B.method).1
  have htg : ∀ q ∈ tg, q.before _ s = true := fun q hq => hts q (List.mem_cons_of_mem _ hq)
  subst hsz
  have hD := hD0.self (sz := s.heap.size)
  generalize hAe : va_A [(h0, oSe)] s.heap.size = A at hD ⊢
  have hA : ∀ q : Nat, s.heap.size ≤ q → A q := fun q h => by rw [← hAe]; exact Or.inr h
  have hS : va_S A s.heap s.heap [] := va_S.rf
  have hl := lv_entry ([.ref h0]) (n := 1) (Nat.le_of_ble_eq_true rfl)
  rw [lg_entry_eq]
  generalize (lg_sl ([.ref h0]) ++ List.replicate (1 - (lg_sl ([.ref h0])).length) Slot.unset).toArray = ls at hl ⊢
  have hl : lv_has ls 1 [(0, .ref h0)] := hl
  have harr : (Cond.arrayClass .int).before _ s = true := (htg (.arrayClass .int) (tg_in (p := 92) (by decide +kernel) rfl))
  refine lv_aload_n hx hb dSe_0 rfl (lv_at hl 0 rfl) ?_
  refine W.objInit hx hb hown (htg (.methodLink RX4 3 objectInit) (tg_in (p := 206) (by decide +kernel) rfl)) (htg (.instanceMethod objectInit) (tg_in (p := 72) (by decide +kernel) rfl)) (htg (.code objectInit ⟨#[0xb1]⟩ 1 none) (tg_in (p := 73) (by decide +kernel) rfl)) rfl (by rw [hml]; exact hl.1) rfl dSe_1 (Nat.le_of_ble_eq_true rfl) (Nat.le_of_ble_eq_true rfl) ?_
  refine W.eq (g2 := F0 m 4 ls []) rfl ?_
  have hP : va_P D vwCl ([(h0, .inr (4, [.null, .null, .null, .int 0, .int 0, .int 0, .int 0, .int 0, .long 0, .long 0]))]) s.heap := hP
  have hD : va_D A ([(h0, .inr (4, [.null, .null, .null, .int 0, .int 0, .int 0, .int 0, .int 0, .long 0, .long 0]))]) := hD
  refine lv_aload_n hx hb dSe_4 rfl (lv_at hl 0 rfl) ?_
  refine va_new (ci := 2) (fs := [.int 0, .int 0, .int 0, .int 0, .int 0, .int 0, .null, .null, .null, .null, .null, .null]) (C := RX2) (T := vwT 2) (N := nf 2) hx hb htg (cls_tg inX2) tyX2 tyX2_ok hown (htg (.classLink RX4 9 RX2) (tg_in (p := 207) (by decide +kernel) rfl)) (htg (.instantiable RX2 12) (tg_in (p := 113) (by decide +kernel) rfl)) (htg (.initialized RX2) (tg_in (p := 58) (by decide +kernel) rfl)) hK hP hD hS hA rfl (fun j hj => by have hj : j < 12 := hj; rcases (show j = 0 ∨ j = 1 ∨ j = 2 ∨ j = 3 ∨ j = 4 ∨ j = 5 ∨ j = 6 ∨ j = 7 ∨ j = 8 ∨ j = 9 ∨ j = 10 ∨ j = 11 by omega) with rfl | rfl | rfl | rfl | rfl | rfl | rfl | rfl | rfl | rfl | rfl | rfl <;> rfl) (Nat.le_of_ble_eq_true rfl) (Nat.le_of_ble_eq_true rfl) dSe_5 (fun t1 H hP hD hS => ?_)
  refine lv_dup hx hb dSe_8 rfl ?_
  refine callCi (c9 := c9) hx hb hml hown htg (tg_in (p := 208) (by decide +kernel) rfl) hK h9 hP hD hS hA hl.1 (Nat.le_of_ble_eq_true rfl) dSe_9 ⟨Nat.le_of_ble_eq_true rfl, Nat.le_of_ble_eq_true rfl⟩ ⟨Nat.le_of_ble_eq_true rfl, Nat.le_of_ble_eq_true rfl⟩ (fun u1 H locs hP hD hS => ?_)
  have hP : va_P D vwCl ([(h0, .inr (4, [.null, .null, .null, .int 0, .int 0, .int 0, .int 0, .int 0, .long 0, .long 0]))] ++ cirW c9 t1 u1) H := hP
  have hD : va_D A ([(h0, .inr (4, [.null, .null, .null, .int 0, .int 0, .int 0, .int 0, .int 0, .long 0, .long 0]))] ++ cirW c9 t1 u1) := hD
  refine va_putF (D := D) (ci := 4) (v := .ref t1) (ty := .object "WinkCircle$Circle") (C := RX4) (T := vwT 4) (N := nf 4) hx hb htg (cls_tg inX4) tyX4 tyX4_ok nmX4 hown hK hP hD hS 0 rfl rfl 0 (by decide) (htg (.fieldLink RX4 12 "WinkCircle$Seer" "trial" "LWinkCircle$Circle;") (tg_in (p := 209) (by decide +kernel) rfl)) (fun _ h9 => h9) rfl hin rfl (by decide +kernel) rfl rfl (Nat.le_of_ble_eq_true rfl) dSe_12 (fun H locs hP hD hS => ?_)
  have hP : va_P D vwCl ([(h0, .inr (4, [.ref t1, .null, .null, .int 0, .int 0, .int 0, .int 0, .int 0, .long 0, .long 0]))] ++ cirW c9 t1 u1) H := hP
  have hD : va_D A ([(h0, .inr (4, [.ref t1, .null, .null, .int 0, .int 0, .int 0, .int 0, .int 0, .long 0, .long 0]))] ++ cirW c9 t1 u1) := hD
  refine lv_aload_n hx hb dSe_15 rfl (lv_at hl 0 rfl) ?_
  refine va_new (ci := 2) (fs := [.int 0, .int 0, .int 0, .int 0, .int 0, .int 0, .null, .null, .null, .null, .null, .null]) (C := RX2) (T := vwT 2) (N := nf 2) hx hb htg (cls_tg inX2) tyX2 tyX2_ok hown (htg (.classLink RX4 9 RX2) (tg_in (p := 207) (by decide +kernel) rfl)) (htg (.instantiable RX2 12) (tg_in (p := 113) (by decide +kernel) rfl)) (htg (.initialized RX2) (tg_in (p := 58) (by decide +kernel) rfl)) hK hP hD hS hA rfl (fun j hj => by have hj : j < 12 := hj; rcases (show j = 0 ∨ j = 1 ∨ j = 2 ∨ j = 3 ∨ j = 4 ∨ j = 5 ∨ j = 6 ∨ j = 7 ∨ j = 8 ∨ j = 9 ∨ j = 10 ∨ j = 11 by omega) with rfl | rfl | rfl | rfl | rfl | rfl | rfl | rfl | rfl | rfl | rfl | rfl <;> rfl) (Nat.le_of_ble_eq_true rfl) (Nat.le_of_ble_eq_true rfl) dSe_16 (fun t2 H hP hD hS => ?_)
  refine lv_dup hx hb dSe_19 rfl ?_
  refine callCi (c9 := c9) hx hb hml hown htg (tg_in (p := 208) (by decide +kernel) rfl) hK h9 hP hD hS hA hl.1 (Nat.le_of_ble_eq_true rfl) dSe_20 ⟨Nat.le_of_ble_eq_true rfl, Nat.le_of_ble_eq_true rfl⟩ ⟨Nat.le_of_ble_eq_true rfl, Nat.le_of_ble_eq_true rfl⟩ (fun u2 H locs hP hD hS => ?_)
  have hP : va_P D vwCl ([(h0, .inr (4, [.ref t1, .null, .null, .int 0, .int 0, .int 0, .int 0, .int 0, .long 0, .long 0]))] ++ cirW c9 t1 u1 ++ cirW c9 t2 u2) H := hP
  have hD : va_D A ([(h0, .inr (4, [.ref t1, .null, .null, .int 0, .int 0, .int 0, .int 0, .int 0, .long 0, .long 0]))] ++ cirW c9 t1 u1 ++ cirW c9 t2 u2) := hD
  refine va_putF (D := D) (ci := 4) (v := .ref t2) (ty := .object "WinkCircle$Circle") (C := RX4) (T := vwT 4) (N := nf 4) hx hb htg (cls_tg inX4) tyX4 tyX4_ok nmX4 hown hK hP hD hS 0 rfl rfl 1 (by decide) (htg (.fieldLink RX4 18 "WinkCircle$Seer" "table" "LWinkCircle$Circle;") (tg_in (p := 210) (by decide +kernel) rfl)) (fun _ h9 => h9) rfl hin rfl (by decide +kernel) rfl rfl (Nat.le_of_ble_eq_true rfl) dSe_23 (fun H locs hP hD hS => ?_)
  have hP : va_P D vwCl ([(h0, .inr (4, [.ref t1, .ref t2, .null, .int 0, .int 0, .int 0, .int 0, .int 0, .long 0, .long 0]))] ++ cirW c9 t1 u1 ++ cirW c9 t2 u2) H := hP
  have hD : va_D A ([(h0, .inr (4, [.ref t1, .ref t2, .null, .int 0, .int 0, .int 0, .int 0, .int 0, .long 0, .long 0]))] ++ cirW c9 t1 u1 ++ cirW c9 t2 u2) := hD
  refine lv_aload_n hx hb dSe_26 rfl (lv_at hl 0 rfl) ?_
  refine lv_bipush (v := nI 12) hx hb dSe_27 (by decide) ?_
  refine nA9 hx hb harr h9 hK hP hD hS hA (N := 12) (by decide) (Nat.le_of_ble_eq_true rfl) (Nat.le_of_ble_eq_true rfl) dSe_29 (fun q3 H hP hD hS => ?_)
  have hP : va_P D vwCl ([(h0, .inr (4, [.ref t1, .ref t2, .null, .int 0, .int 0, .int 0, .int 0, .int 0, .long 0, .long 0]))] ++ cirW c9 t1 u1 ++ cirW c9 t2 u2 ++ [(q3, zr c9 12)]) H := hP
  have hD : va_D A ([(h0, .inr (4, [.ref t1, .ref t2, .null, .int 0, .int 0, .int 0, .int 0, .int 0, .long 0, .long 0]))] ++ cirW c9 t1 u1 ++ cirW c9 t2 u2 ++ [(q3, zr c9 12)]) := hD
  refine va_putF (D := D) (ci := 4) (v := .ref q3) (ty := .array .int) (C := RX4) (T := vwT 4) (N := nf 4) hx hb htg (cls_tg inX4) tyX4 tyX4_ok nmX4 hown hK hP hD hS 0 rfl rfl 2 (by decide) (htg (.fieldLink RX4 21 "WinkCircle$Seer" "heard" "[I") (tg_in (p := 211) (by decide +kernel) rfl)) (fun _ h9 => h9) rfl hin rfl (by decide +kernel) rfl rfl (Nat.le_of_ble_eq_true rfl) dSe_31 (fun H locs hP hD hS => ?_)
  have hP : va_P D vwCl ([(h0, .inr (4, [.ref t1, .ref t2, .ref q3, .int 0, .int 0, .int 0, .int 0, .int 0, .long 0, .long 0]))] ++ cirW c9 t1 u1 ++ cirW c9 t2 u2 ++ [(q3, zr c9 12)]) H := hP
  have hD : va_D A ([(h0, .inr (4, [.ref t1, .ref t2, .ref q3, .int 0, .int 0, .int 0, .int 0, .int 0, .long 0, .long 0]))] ++ cirW c9 t1 u1 ++ cirW c9 t2 u2 ++ [(q3, zr c9 12)]) := hD
  exact W.vret hx hb hr (fun t ht hW => ⟨⟨(t1, u1, t2, u2, q3), rfl, trivial, by rw [ht]; exact hP, hD⟩, hS.F ht⟩) hS.2.2 dSe_34
