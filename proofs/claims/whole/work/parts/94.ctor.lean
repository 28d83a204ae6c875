/-! constructors: the world stays a list in the order of making; a constructor is called on its last cell -/
theorem jn {A : Nat → Prop} {D : va_G} {cl : List vw_C} {X w1 : va_W} {q : Nat} {e : va_E} {H H1 : Heap} (hP : va_P D cl (X ++ [(q, e)]) H) (hD : va_D A (X ++ [(q, e)])) (hk : ∀ x : Nat, x < H.size → ¬ va_A [(q, e)] H.size x → H1[x]? = H[x]?) (hF : ∀ x, va_A [(q, e)] H.size x → A x) (hP1 : va_P D cl w1 H1) (hD1 : va_D (va_A [(q, e)] H.size) w1) : va_P D cl (X ++ w1) H1 ∧ va_D A (X ++ w1) := by
  have at' : ∀ (k : Nat) (x : Nat × va_E), X[k]? = some x → (X ++ [(q, e)])[k]? = some x := fun k x hx => by
    rw [List.getElem?_append_left (List.getElem?_eq_some_iff.mp hx).1]; exact hx
  have lst : (X ++ [(q, e)])[X.length]? = some (q, e) := by
    rw [List.getElem?_append_right (Nat.le_refl _), Nat.sub_self]; rfl
  have out : ∀ (k : Nat) (x : Nat × va_E), X[k]? = some x → ¬ va_A [(q, e)] H.size x.1 := fun k x hx hA => by
    have hl := (List.getElem?_eq_some_iff.mp hx).1
    rcases hA with ⟨j, e', hj⟩ | hz
    · have hj0 : j < 1 := (List.getElem?_eq_some_iff.mp hj).1
      have hj1 : j = 0 := by omega
      subst hj1
      have hq : q = x.1 := by
        have : some (q, e) = some (x.1, e') := hj
        cases this; rfl
      have := hD.1 k X.length x (q, e) (at' k x hx) lst hq.symm
      omega
    · have := (hP k x (at' k x hx)).lt
      omega
  have hPX : va_P D cl X H := fun k x hx => hP k x (at' k x hx)
  refine ⟨(hPX.kept fun k x hx => hk x.1 ((hPX k x hx).lt) (out k x hx)).app hP1, ?_, ?_⟩
  · intro i j x y hx hy hxy
    by_cases h1 : i < X.length
    · rw [List.getElem?_append_left h1] at hx
      by_cases h2 : j < X.length
      · rw [List.getElem?_append_left h2] at hy
        exact hD.1 i j x y (at' i x hx) (at' j y hy) hxy
      · rw [List.getElem?_append_right (by omega)] at hy
        exact absurd (by rw [hxy]; exact hD1.2 _ y hy) (out i x hx)
    · rw [List.getElem?_append_right (by omega)] at hx
      by_cases h2 : j < X.length
      · rw [List.getElem?_append_left h2] at hy
        exact absurd (by rw [← hxy]; exact hD1.2 _ x hx) (out j y hy)
      · rw [List.getElem?_append_right (by omega)] at hy
        have := hD1.1 _ _ x y hx hy hxy
        omega
  · intro k x hx
    by_cases h1 : k < X.length
    · rw [List.getElem?_append_left h1] at hx
      exact hD.2 k x (at' k x hx)
    · rw [List.getElem?_append_right (by omega)] at hx
      exact hF _ (hD1.2 _ x hx)
section
variable {p : Program} {l : Launch} {e : Env} {R : Room} {s : State} {m : MethodId} {args : Array Value} {below : List Frame} {meth : Method} {c : Code} {H : Heap} {locs : List Loc} {cells slots : Nat} {Q : State → Prop}
variable {cc : ByteArray} {pc : Nat} {ls : Array Slot} {rest : List Value} {D : va_G} {cl : List vw_C} {A : Nat → Prop} {tys : List (ClassId × FieldType)} {ws : va_W} {H0 : Heap}
/-- a new row of ints, of the one class that there is -/
theorem nA9 (hexec : p.tables.exec = Jvm.exec) (hb : c.code = cc) (harr : (Cond.arrayClass .int).before args s = true) {c9 : ClassId} (h9 : s.vm.findClass ("[" ++ FieldType.int.toString) = some c9) (hK : va_K D cl tys s) (hP : va_P D cl ws H) (hD : va_D A ws) (hS : va_S A H0 H locs) (hA : ∀ q, H0.size ≤ q → A q) {N : Nat} (hN : N < 2000) (hcells : cells + 1 ≤ R.cells) (hslots : slots + N ≤ R.slots) (hdg : decode cc pc = .ok (.newarray .int, 2))
    (kk : ∀ (q : Nat) (H1 : Heap), va_P D cl (ws ++ [(q, .inl (c9, N, .inl (fun _ => 0)))]) H1 → va_D A (ws ++ [(q, .inl (c9, N, .inl (fun _ => 0)))]) → va_S A H0 H1 locs → W p l e R s m args below meth c H1 locs (cells + 1) (slots + N) Q (F0 m (pc + 2) ls (.ref q :: rest))) : W p l e R s m args below meth c H locs cells slots Q (F0 m pc ls (.int (nI N) :: rest)) := by
  refine va_newa (atype := .int) (a0 := (N, .inl (fun _ => 0))) hexec hb harr rfl hK hP hD hS hA (fun _ => rfl) (nI_pos (by omega)) (nI_clamp (by omega)) (by show N * 4 ≤ _; omega) hcells hslots hdg fun q cA H1 hK1 hP1 hD1 hS1 => ?_
  have hR : va_RA s cA .int := (hK1.2 tys.length (cA, .int) (by rw [List.getElem?_append_right (Nat.le_refl _), Nat.sub_self]; rfl)).2
  have he : cA = c9 := Option.some.inj (hR.symm.trans h9)
  subst he
  exact kk q H1 hP1 hD1 hS1
end
def yCi : MethodName := ⟨"WinkCircle$Circle", "<init>", "()V"⟩
abbrev bCi : ByteArray := prog_4_method_1_code
def wCi : List Cond := .code yCi bCi 1 none :: tg
def ob0 : va_E := .inr (2, [.int 0, .int 0, .int 0, .int 0, .int 0, .int 0, .null, .null, .null, .null, .null, .null])
def zr (c9 : ClassId) (n : Nat) : va_E := .inl (c9, n, .inl (fun _ => 0))
def cirW (c9 : ClassId) (h0 : Nat) (u : Nat × Nat × Nat × Nat × Nat × Nat) : va_W := [(h0, .inr (2, [.int 0, .int 0, .int 0, .int 0, .int 0, .int 0, .ref u.1, .ref u.2.1, .ref u.2.2.1, .ref u.2.2.2.1, .ref u.2.2.2.2.1, .ref u.2.2.2.2.2])), (u.1, zr c9 8), (u.2.1, zr c9 8), (u.2.2.1, zr c9 8), (u.2.2.2.1, zr c9 8), (u.2.2.2.2.1, zr c9 8), (u.2.2.2.2.2, zr c9 8)]
theorem dCi_0 : decode bCi 0 = .ok (.aload_n 0, 1) := by decide +kernel
theorem dCi_1 : decode bCi 1 = .ok (.invokespecial 3, 3) := by decide +kernel
theorem dCi_4 : decode bCi 4 = .ok (.aload_n 0, 1) := by decide +kernel
theorem dCi_5 : decode bCi 5 = .ok (.bipush 8, 2) := by decide +kernel
theorem dCi_7 : decode bCi 7 = .ok (.newarray .int, 2) := by decide +kernel
theorem dCi_9 : decode bCi 9 = .ok (.putfield 9, 3) := by decide +kernel
theorem dCi_12 : decode bCi 12 = .ok (.aload_n 0, 1) := by decide +kernel
theorem dCi_13 : decode bCi 13 = .ok (.bipush 8, 2) := by decide +kernel
theorem dCi_15 : decode bCi 15 = .ok (.newarray .int, 2) := by decide +kernel
theorem dCi_17 : decode bCi 17 = .ok (.putfield 15, 3) := by decide +kernel
theorem dCi_20 : decode bCi 20 = .ok (.aload_n 0, 1) := by decide +kernel
theorem dCi_21 : decode bCi 21 = .ok (.bipush 8, 2) := by decide +kernel
theorem dCi_23 : decode bCi 23 = .ok (.newarray .int, 2) := by decide +kernel
theorem dCi_25 : decode bCi 25 = .ok (.putfield 18, 3) := by decide +kernel
theorem dCi_28 : decode bCi 28 = .ok (.aload_n 0, 1) := by decide +kernel
theorem dCi_29 : decode bCi 29 = .ok (.bipush 8, 2) := by decide +kernel
theorem dCi_31 : decode bCi 31 = .ok (.newarray .int, 2) := by decide +kernel
theorem dCi_33 : decode bCi 33 = .ok (.putfield 21, 3) := by decide +kernel
theorem dCi_36 : decode bCi 36 = .ok (.aload_n 0, 1) := by decide +kernel
theorem dCi_37 : decode bCi 37 = .ok (.bipush 8, 2) := by decide +kernel
theorem dCi_39 : decode bCi 39 = .ok (.newarray .int, 2) := by decide +kernel
theorem dCi_41 : decode bCi 41 = .ok (.putfield 24, 3) := by decide +kernel
theorem dCi_44 : decode bCi 44 = .ok (.aload_n 0, 1) := by decide +kernel
theorem dCi_45 : decode bCi 45 = .ok (.bipush 8, 2) := by decide +kernel
theorem dCi_47 : decode bCi 47 = .ok (.newarray .int, 2) := by decide +kernel
theorem dCi_49 : decode bCi 49 = .ok (.putfield 27, 3) := by decide +kernel
theorem dCi_52 : decode bCi 52 = .ok (.return_, 1) := by decide +kernel
set_option maxHeartbeats 4000000 in
set_option maxRecDepth 100000 in
theorem c_Ci (l : Launch) (D : va_G) (tys : List (ClassId × FieldType)) (c9 : ClassId) (h0 sz : Nat) : Met l yCi wCi ({ frames := 1, cells := 6, slots := 48, locals := 12 }) (va_Pc [.ref h0] (fun U => U.heap.size = sz ∧ va_P D vwCl [(h0, ob0)] U.heap ∧ va_K D vwCl tys U ∧ va_D (fun _ => True) [(h0, ob0)] ∧ U.vm.findClass ("[" ++ FieldType.int.toString) = some c9)) (va_Qv (fun _ : Nat × Nat × Nat × Nat × Nat × Nat => True) (fun u t => va_P D vwCl (cirW c9 h0 u) t.heap ∧ va_D (va_A [(h0, ob0)] sz) (cirW c9 h0 u)) (va_A [(h0, ob0)] sz)) 6 48 (va_A [(h0, ob0)] sz) := by
  refine Met.ofW (cc := bCi) (maxL := 1) (ret := none) (by decide) rfl ?_
  intro p e s m args below meth c s₁ B hml hv
  obtain ⟨rfl, hsz, hP, hK, hD0, h9⟩ := hv
  have hx := B.exec
  have hb := B.bytes
  have hr := B.returns
  have hts := atoms_spec (ws := wCi) B.pre
  have hown : s.vm.findClass RX2 = some m.cls := findClass_of_methodNamed B.named
  have hlocks := B.notSynchronized
  have hin : meth.name = "<init>" := (name_of_methodNamed B.named B.method).1
  have htg : ∀ q ∈ tg, q.before _ s = true := fun q hq => hts q (List.mem_cons_of_mem _ hq)
  subst hsz
  have hD := hD0.self (sz := s.heap.size)
  generalize hAe : va_A [(h0, ob0)] s.heap.size = A at hD ⊢
  have hA : ∀ q : Nat, s.heap.size ≤ q → A q := fun q h => by rw [← hAe]; exact Or.inr h
  have hS : va_S A s.heap s.heap [] := va_S.rf
  have hl := lv_entry ([.ref h0]) (n := 1) (Nat.le_of_ble_eq_true rfl)
  rw [lg_entry_eq]
  generalize (lg_sl ([.ref h0]) ++ List.replicate (1 - (lg_sl ([.ref h0])).length) Slot.unset).toArray = ls at hl ⊢
  have hl : lv_has ls 1 [(0, .ref h0)] := hl
  refine lv_aload_n hx hb dCi_0 rfl (lv_at hl 0 rfl) ?_
  refine W.objInit hx hb hown (htg (.methodLink RX2 3 objectInit) (tg_in (p := 117) (by decide +kernel) rfl)) (htg (.instanceMethod objectInit) (tg_in (p := 72) (by decide +kernel) rfl)) (htg (.code objectInit ⟨#[0xb1]⟩ 1 none) (tg_in (p := 73) (by decide +kernel) rfl)) rfl (by rw [hml]; exact hl.1) rfl dCi_1 (Nat.le_of_ble_eq_true rfl) (Nat.le_of_ble_eq_true rfl) ?_
  refine W.eq (g2 := F0 m 4 ls []) rfl ?_
  have harr : (Cond.arrayClass .int).before _ s = true := (htg (.arrayClass .int) (tg_in (p := 92) (by decide +kernel) rfl))
  have hP : va_P D vwCl [(h0, .inr (2, [.int 0, .int 0, .int 0, .int 0, .int 0, .int 0, .null, .null, .null, .null, .null, .null]))] s.heap := hP
  have hD : va_D A [(h0, .inr (2, [.int 0, .int 0, .int 0, .int 0, .int 0, .int 0, .null, .null, .null, .null, .null, .null]))] := hD
  refine lv_aload_n hx hb dCi_4 rfl (lv_at hl 0 rfl) ?_
  refine lv_bipush (v := nI 8) hx hb dCi_5 (by decide) ?_
  refine nA9 hx hb harr h9 hK hP hD hS hA (N := 8) (by decide) (Nat.le_of_ble_eq_true rfl) (Nat.le_of_ble_eq_true rfl) dCi_7 (fun q1 H hP hD hS => ?_)
  have hP : va_P D vwCl [(h0, .inr (2, [.int 0, .int 0, .int 0, .int 0, .int 0, .int 0, .null, .null, .null, .null, .null, .null])), (q1, zr c9 8)] H := hP
  have hD : va_D A [(h0, .inr (2, [.int 0, .int 0, .int 0, .int 0, .int 0, .int 0, .null, .null, .null, .null, .null, .null])), (q1, zr c9 8)] := hD
  refine va_putF (D := D) (ci := 2) (v := .ref q1) (ty := .array .int) (C := RX2) (T := vwT 2) (N := nf 2) hx hb htg (cls_tg inX2) tyX2 tyX2_ok nmX2 hown hK hP hD hS 0 rfl rfl 6 (by decide) (htg (.fieldLink RX2 9 "WinkCircle$Circle" "kind" "[I") (tg_in (p := 137) (by decide +kernel) rfl)) (fun _ h9 => h9) rfl hin rfl (by decide +kernel) rfl rfl (Nat.le_of_ble_eq_true rfl) dCi_9 (fun H locs hP hD hS => ?_)
  have hP : va_P D vwCl [(h0, .inr (2, [.int 0, .int 0, .int 0, .int 0, .int 0, .int 0, .ref q1, .null, .null, .null, .null, .null])), (q1, zr c9 8)] H := hP
  have hD : va_D A [(h0, .inr (2, [.int 0, .int 0, .int 0, .int 0, .int 0, .int 0, .ref q1, .null, .null, .null, .null, .null])), (q1, zr c9 8)] := hD
  refine lv_aload_n hx hb dCi_12 rfl (lv_at hl 0 rfl) ?_
  refine lv_bipush (v := nI 8) hx hb dCi_13 (by decide) ?_
  refine nA9 hx hb harr h9 hK hP hD hS hA (N := 8) (by decide) (Nat.le_of_ble_eq_true rfl) (Nat.le_of_ble_eq_true rfl) dCi_15 (fun q2 H hP hD hS => ?_)
  have hP : va_P D vwCl [(h0, .inr (2, [.int 0, .int 0, .int 0, .int 0, .int 0, .int 0, .ref q1, .null, .null, .null, .null, .null])), (q1, zr c9 8), (q2, zr c9 8)] H := hP
  have hD : va_D A [(h0, .inr (2, [.int 0, .int 0, .int 0, .int 0, .int 0, .int 0, .ref q1, .null, .null, .null, .null, .null])), (q1, zr c9 8), (q2, zr c9 8)] := hD
  refine va_putF (D := D) (ci := 2) (v := .ref q2) (ty := .array .int) (C := RX2) (T := vwT 2) (N := nf 2) hx hb htg (cls_tg inX2) tyX2 tyX2_ok nmX2 hown hK hP hD hS 0 rfl rfl 7 (by decide) (htg (.fieldLink RX2 15 "WinkCircle$Circle" "look" "[I") (tg_in (p := 141) (by decide +kernel) rfl)) (fun _ h9 => h9) rfl hin rfl (by decide +kernel) rfl rfl (Nat.le_of_ble_eq_true rfl) dCi_17 (fun H locs hP hD hS => ?_)
  have hP : va_P D vwCl [(h0, .inr (2, [.int 0, .int 0, .int 0, .int 0, .int 0, .int 0, .ref q1, .ref q2, .null, .null, .null, .null])), (q1, zr c9 8), (q2, zr c9 8)] H := hP
  have hD : va_D A [(h0, .inr (2, [.int 0, .int 0, .int 0, .int 0, .int 0, .int 0, .ref q1, .ref q2, .null, .null, .null, .null])), (q1, zr c9 8), (q2, zr c9 8)] := hD
  refine lv_aload_n hx hb dCi_20 rfl (lv_at hl 0 rfl) ?_
  refine lv_bipush (v := nI 8) hx hb dCi_21 (by decide) ?_
  refine nA9 hx hb harr h9 hK hP hD hS hA (N := 8) (by decide) (Nat.le_of_ble_eq_true rfl) (Nat.le_of_ble_eq_true rfl) dCi_23 (fun q3 H hP hD hS => ?_)
  have hP : va_P D vwCl [(h0, .inr (2, [.int 0, .int 0, .int 0, .int 0, .int 0, .int 0, .ref q1, .ref q2, .null, .null, .null, .null])), (q1, zr c9 8), (q2, zr c9 8), (q3, zr c9 8)] H := hP
  have hD : va_D A [(h0, .inr (2, [.int 0, .int 0, .int 0, .int 0, .int 0, .int 0, .ref q1, .ref q2, .null, .null, .null, .null])), (q1, zr c9 8), (q2, zr c9 8), (q3, zr c9 8)] := hD
  refine va_putF (D := D) (ci := 2) (v := .ref q3) (ty := .array .int) (C := RX2) (T := vwT 2) (N := nf 2) hx hb htg (cls_tg inX2) tyX2 tyX2_ok nmX2 hown hK hP hD hS 0 rfl rfl 8 (by decide) (htg (.fieldLink RX2 18 "WinkCircle$Circle" "slow" "[I") (tg_in (p := 145) (by decide +kernel) rfl)) (fun _ h9 => h9) rfl hin rfl (by decide +kernel) rfl rfl (Nat.le_of_ble_eq_true rfl) dCi_25 (fun H locs hP hD hS => ?_)
  have hP : va_P D vwCl [(h0, .inr (2, [.int 0, .int 0, .int 0, .int 0, .int 0, .int 0, .ref q1, .ref q2, .ref q3, .null, .null, .null])), (q1, zr c9 8), (q2, zr c9 8), (q3, zr c9 8)] H := hP
  have hD : va_D A [(h0, .inr (2, [.int 0, .int 0, .int 0, .int 0, .int 0, .int 0, .ref q1, .ref q2, .ref q3, .null, .null, .null])), (q1, zr c9 8), (q2, zr c9 8), (q3, zr c9 8)] := hD
  refine lv_aload_n hx hb dCi_28 rfl (lv_at hl 0 rfl) ?_
  refine lv_bipush (v := nI 8) hx hb dCi_29 (by decide) ?_
  refine nA9 hx hb harr h9 hK hP hD hS hA (N := 8) (by decide) (Nat.le_of_ble_eq_true rfl) (Nat.le_of_ble_eq_true rfl) dCi_31 (fun q4 H hP hD hS => ?_)
  have hP : va_P D vwCl [(h0, .inr (2, [.int 0, .int 0, .int 0, .int 0, .int 0, .int 0, .ref q1, .ref q2, .ref q3, .null, .null, .null])), (q1, zr c9 8), (q2, zr c9 8), (q3, zr c9 8), (q4, zr c9 8)] H := hP
  have hD : va_D A [(h0, .inr (2, [.int 0, .int 0, .int 0, .int 0, .int 0, .int 0, .ref q1, .ref q2, .ref q3, .null, .null, .null])), (q1, zr c9 8), (q2, zr c9 8), (q3, zr c9 8), (q4, zr c9 8)] := hD
  refine va_putF (D := D) (ci := 2) (v := .ref q4) (ty := .array .int) (C := RX2) (T := vwT 2) (N := nf 2) hx hb htg (cls_tg inX2) tyX2 tyX2_ok nmX2 hown hK hP hD hS 0 rfl rfl 9 (by decide) (htg (.fieldLink RX2 21 "WinkCircle$Circle" "how" "[I") (tg_in (p := 149) (by decide +kernel) rfl)) (fun _ h9 => h9) rfl hin rfl (by decide +kernel) rfl rfl (Nat.le_of_ble_eq_true rfl) dCi_33 (fun H locs hP hD hS => ?_)
  have hP : va_P D vwCl [(h0, .inr (2, [.int 0, .int 0, .int 0, .int 0, .int 0, .int 0, .ref q1, .ref q2, .ref q3, .ref q4, .null, .null])), (q1, zr c9 8), (q2, zr c9 8), (q3, zr c9 8), (q4, zr c9 8)] H := hP
  have hD : va_D A [(h0, .inr (2, [.int 0, .int 0, .int 0, .int 0, .int 0, .int 0, .ref q1, .ref q2, .ref q3, .ref q4, .null, .null])), (q1, zr c9 8), (q2, zr c9 8), (q3, zr c9 8), (q4, zr c9 8)] := hD
  refine lv_aload_n hx hb dCi_36 rfl (lv_at hl 0 rfl) ?_
  refine lv_bipush (v := nI 8) hx hb dCi_37 (by decide) ?_
  refine nA9 hx hb harr h9 hK hP hD hS hA (N := 8) (by decide) (Nat.le_of_ble_eq_true rfl) (Nat.le_of_ble_eq_true rfl) dCi_39 (fun q5 H hP hD hS => ?_)
  have hP : va_P D vwCl [(h0, .inr (2, [.int 0, .int 0, .int 0, .int 0, .int 0, .int 0, .ref q1, .ref q2, .ref q3, .ref q4, .null, .null])), (q1, zr c9 8), (q2, zr c9 8), (q3, zr c9 8), (q4, zr c9 8), (q5, zr c9 8)] H := hP
  have hD : va_D A [(h0, .inr (2, [.int 0, .int 0, .int 0, .int 0, .int 0, .int 0, .ref q1, .ref q2, .ref q3, .ref q4, .null, .null])), (q1, zr c9 8), (q2, zr c9 8), (q3, zr c9 8), (q4, zr c9 8), (q5, zr c9 8)] := hD
  refine va_putF (D := D) (ci := 2) (v := .ref q5) (ty := .array .int) (C := RX2) (T := vwT 2) (N := nf 2) hx hb htg (cls_tg inX2) tyX2 tyX2_ok nmX2 hown hK hP hD hS 0 rfl rfl 10 (by decide) (htg (.fieldLink RX2 24 "WinkCircle$Circle" "left" "[I") (tg_in (p := 152) (by decide +kernel) rfl)) (fun _ h9 => h9) rfl hin rfl (by decide +kernel) rfl rfl (Nat.le_of_ble_eq_true rfl) dCi_41 (fun H locs hP hD hS => ?_)
  have hP : va_P D vwCl [(h0, .inr (2, [.int 0, .int 0, .int 0, .int 0, .int 0, .int 0, .ref q1, .ref q2, .ref q3, .ref q4, .ref q5, .null])), (q1, zr c9 8), (q2, zr c9 8), (q3, zr c9 8), (q4, zr c9 8), (q5, zr c9 8)] H := hP
  have hD : va_D A [(h0, .inr (2, [.int 0, .int 0, .int 0, .int 0, .int 0, .int 0, .ref q1, .ref q2, .ref q3, .ref q4, .ref q5, .null])), (q1, zr c9 8), (q2, zr c9 8), (q3, zr c9 8), (q4, zr c9 8), (q5, zr c9 8)] := hD
  refine lv_aload_n hx hb dCi_44 rfl (lv_at hl 0 rfl) ?_
  refine lv_bipush (v := nI 8) hx hb dCi_45 (by decide) ?_
  refine nA9 hx hb harr h9 hK hP hD hS hA (N := 8) (by decide) (Nat.le_of_ble_eq_true rfl) (Nat.le_of_ble_eq_true rfl) dCi_47 (fun q6 H hP hD hS => ?_)
  have hP : va_P D vwCl [(h0, .inr (2, [.int 0, .int 0, .int 0, .int 0, .int 0, .int 0, .ref q1, .ref q2, .ref q3, .ref q4, .ref q5, .null])), (q1, zr c9 8), (q2, zr c9 8), (q3, zr c9 8), (q4, zr c9 8), (q5, zr c9 8), (q6, zr c9 8)] H := hP
  have hD : va_D A [(h0, .inr (2, [.int 0, .int 0, .int 0, .int 0, .int 0, .int 0, .ref q1, .ref q2, .ref q3, .ref q4, .ref q5, .null])), (q1, zr c9 8), (q2, zr c9 8), (q3, zr c9 8), (q4, zr c9 8), (q5, zr c9 8), (q6, zr c9 8)] := hD
  refine va_putF (D := D) (ci := 2) (v := .ref q6) (ty := .array .int) (C := RX2) (T := vwT 2) (N := nf 2) hx hb htg (cls_tg inX2) tyX2 tyX2_ok nmX2 hown hK hP hD hS 0 rfl rfl 11 (by decide) (htg (.fieldLink RX2 27 "WinkCircle$Circle" "saw" "[I") (tg_in (p := 154) (by decide +kernel) rfl)) (fun _ h9 => h9) rfl hin rfl (by decide +kernel) rfl rfl (Nat.le_of_ble_eq_true rfl) dCi_49 (fun H locs hP hD hS => ?_)
  have hP : va_P D vwCl [(h0, .inr (2, [.int 0, .int 0, .int 0, .int 0, .int 0, .int 0, .ref q1, .ref q2, .ref q3, .ref q4, .ref q5, .ref q6])), (q1, zr c9 8), (q2, zr c9 8), (q3, zr c9 8), (q4, zr c9 8), (q5, zr c9 8), (q6, zr c9 8)] H := hP
  have hD : va_D A [(h0, .inr (2, [.int 0, .int 0, .int 0, .int 0, .int 0, .int 0, .ref q1, .ref q2, .ref q3, .ref q4, .ref q5, .ref q6])), (q1, zr c9 8), (q2, zr c9 8), (q3, zr c9 8), (q4, zr c9 8), (q5, zr c9 8), (q6, zr c9 8)] := hD
  exact W.vret hx hb hr (fun t ht hW => ⟨⟨(q1, q2, q3, q4, q5, q6), rfl, trivial, by rw [ht]; exact hP, hD⟩, hS.F ht⟩) hS.2.2 dCi_52
