theorem dL_0 : decode code 0 = .ok (.new 7, 3) := by decide +kernel
theorem dL_3 : decode code 3 = .ok (.dup, 1) := by decide +kernel
theorem dL_4 : decode code 4 = .ok (.invokespecial 9, 3) := by decide +kernel
theorem dL_7 : decode code 7 = .ok (.astore_n 1, 1) := by decide +kernel
theorem dL_8 : decode code 8 = .ok (.new 10, 3) := by decide +kernel
theorem dL_11 : decode code 11 = .ok (.dup, 1) := by decide +kernel
theorem dL_12 : decode code 12 = .ok (.invokespecial 12, 3) := by decide +kernel
theorem dL_15 : decode code 15 = .ok (.astore_n 2, 1) := by decide +kernel
set_option maxHeartbeats 4000000 in
set_option maxRecDepth 100000 in
/-- THE LAW, from its entry -/
theorem whole_start {p : Program} {e : Env} {s : State} {m : MethodId} {below : List Frame} {meth : Method} {c : Code} (l : Launch) (hflags : l.flags = flags0) {b L : Nat} {xs : Nat → Int32} (hL : L ≤ 3072) (C0 : lw_At p s m meth c b L xs) : W p l e room_1 s m #[Value.ref b] below meth c s.heap [] 0 0 (lw_Z below #[Value.ref b] s) (entryFrame m ([Value.ref b] : List Value).toArray 4) := by
  obtain ⟨hx, hb, hr, hml, hown, hts, hX, hbl, hlocks, hgv⟩ := id C0
  have htg : ∀ w ∈ tg, w.before #[Value.ref b] s = true := fun w hw => hts w (tg_sub hw)
  obtain ⟨D, k, hK⟩ := tyAll hts
  have h8 : s.vm.findClass ("[" ++ FieldType.byte.toString) = some (k 8) := (hK.2 0 _ rfl).2
  have h9 : s.vm.findClass ("[" ++ FieldType.int.toString) = some (k 9) := (hK.2 1 _ rfl).2
  have h10 : s.vm.findClass ("[" ++ FieldType.boolean.toString) = some (k 10) := (hK.2 2 _ rfl).2
  have h11 : s.vm.findClass ("[" ++ (FieldType.object RX2).toString) = some (k 11) := by
    obtain ⟨_, _, _, _, _, r4⟩ := (hK.2 3 _ rfl).2
    exact r4
  have h12 : s.vm.findClass ("[" ++ (FieldType.array .int).toString) = some (k 12) := (hK.2 4 _ rfl).2
  have hAO : va_AO RX2 s := va_AO.of (hts (.arrayOver (.object RX2)) (List.mem_of_getElem? (i := 189) (by decide +kernel)))
  have hAA : eAA (k 9) (k 12) s := by
    obtain ⟨comp, c12, k12, g1, -, g3, g4, g5⟩ := arrayOverA_spec (hts (.arrayOver (.array .int)) (List.mem_of_getElem? (i := 81) (by decide +kernel)))
    obtain ⟨c9, k9, cI, j1, j2, j3⟩ := Cond.arrayClass_spec (hts (.arrayClass .int) (List.mem_of_getElem? (i := 92) (by decide +kernel)))
    have e1 : comp = k 9 := Option.some.inj (g1.symm.trans h9)
    have e2 : c9 = k 9 := Option.some.inj (j1.symm.trans h9)
    have e3 : c12 = k 12 := Option.some.inj (g5.symm.trans h12)
    rw [e1] at g4
    rw [e2] at j2
    rw [e3] at g3
    exact ⟨k9, k12, cI, j2, j3, g3, g4, h12⟩
  have hA : ∀ q : Nat, s.heap.size ≤ q → (fun q : Nat => s.heap.size ≤ q) q := fun _ h => h
  have hS : va_S (fun q : Nat => s.heap.size ≤ q) s.heap s.heap [] := va_S.rf
  have hP : va_P D vwCl [] s.heap := fun k q h => by simp at h
  have hD : va_D (fun q : Nat => s.heap.size ≤ q) [] := ⟨fun i j p q h => by simp at h, fun k q h => by simp at h⟩
  have hl := lv_entry ([.ref b]) (n := 4) (Nat.le_of_ble_eq_true rfl)
  rw [lg_entry_eq]
  generalize (lg_sl ([.ref b]) ++ List.replicate (4 - (lg_sl ([.ref b])).length) Slot.unset).toArray = ls at hl ⊢
  have hl : lv_has ls 4 [(0, .ref b)] := hl
  refine va_new (ci := 6) (fs := [.null, .null, .null, .null, .null, .null, .null, .null, .int 0, .int 0]) (C := RX6) (T := vwT 6) (N := nf 6) hx hb htg (cls_tg inX6) tyX6 tyX6_ok hown (htg (.classLink R_law 7 RX6) (tg_in (p := 66) (by decide +kernel) rfl)) (htg (.instantiable RX6 10) (tg_in (p := 67) (by decide +kernel) rfl)) (htg (.initialized RX6) (tg_in (p := 55) (by decide +kernel) rfl)) hK hP hD hS hA rfl (fun j hj => by have hj : j < 10 := hj; rcases (show j = 0 ∨ j = 1 ∨ j = 2 ∨ j = 3 ∨ j = 4 ∨ j = 5 ∨ j = 6 ∨ j = 7 ∨ j = 8 ∨ j = 9 by omega) with rfl | rfl | rfl | rfl | rfl | rfl | rfl | rfl | rfl | rfl <;> rfl) (Nat.le_of_ble_eq_true rfl) (Nat.le_of_ble_eq_true rfl) dL_0 (fun h H hP hD hS => ?_)
  refine lv_dup hx hb dL_3 rfl ?_
  refine callK (y := yWi) (bb := bWi) (ob := oWi) (c_Wi l D _ (k 9) (k 11) (k 12) rfl rfl h H.size) (tg_in (p := 70) (by decide +kernel) rfl) (tg_in (p := 55) (by decide +kernel) rfl) (tg_in (p := 69) (by decide +kernel) rfl) rfl (by decide +kernel) (fun _ _ h q => ⟨eNm.mv h q.1, eNm.mv h q.2.1, va_AO.moved h q.2.2.1, q.2.2.2.mv h⟩) (⟨h9, h11, hAO, hAA⟩) hx hb hml hown htg (tg_in (p := 68) (by decide +kernel) rfl) hK hP hD hS hA hl.1 (Nat.le_of_ble_eq_true rfl) dL_4 ⟨Nat.le_of_ble_eq_true rfl, Nat.le_of_ble_eq_true rfl⟩ ⟨Nat.le_of_ble_eq_true rfl, Nat.le_of_ble_eq_true rfl⟩ (fun u H locs hP hD hS => ?_)
  have hP : va_P D vwCl (wiW (k 9) (k 11) (k 12) h u) H := hP
  have hD : va_D (fun q : Nat => s.heap.size ≤ q) (wiW (k 9) (k 11) (k 12) h u) := hD
  refine lv_astore_n (lv' := [(1, .ref h), (0, .ref b)]) hx hb dL_7 rfl hl (by decide) rfl (fun ls hl => ?_)
  refine va_new (ci := 7) (fs := [.null, .null, .null, .int 0, .null, .int 0, .null, .null, .null, .int 0, .null, .null, .null, .null, .int 0, .int 0, .int 0, .int 0, .int 0, .int 0, .int 0, .null, .null, .int 0]) (C := RX7) (T := vwT 7) (N := nf 7) hx hb htg (cls_tg inX7) tyX7 tyX7_ok hown (htg (.classLink R_law 10 RX7) (tg_in (p := 848) (by decide +kernel) rfl)) (htg (.instantiable RX7 24) (tg_in (p := 849) (by decide +kernel) rfl)) (htg (.initialized RX7) (tg_in (p := 62) (by decide +kernel) rfl)) hK hP hD hS hA rfl (fun j hj => by have hj : j < 24 := hj; rcases (show j = 0 ∨ j = 1 ∨ j = 2 ∨ j = 3 ∨ j = 4 ∨ j = 5 ∨ j = 6 ∨ j = 7 ∨ j = 8 ∨ j = 9 ∨ j = 10 ∨ j = 11 ∨ j = 12 ∨ j = 13 ∨ j = 14 ∨ j = 15 ∨ j = 16 ∨ j = 17 ∨ j = 18 ∨ j = 19 ∨ j = 20 ∨ j = 21 ∨ j = 22 ∨ j = 23 by omega) with rfl | rfl | rfl | rfl | rfl | rfl | rfl | rfl | rfl | rfl | rfl | rfl | rfl | rfl | rfl | rfl | rfl | rfl | rfl | rfl | rfl | rfl | rfl | rfl <;> rfl) (Nat.le_of_ble_eq_true rfl) (Nat.le_of_ble_eq_true rfl) dL_8 (fun q H hP hD hS => ?_)
  refine lv_dup hx hb dL_11 rfl ?_
  refine callK (y := yMo) (bb := bMo) (ob := oMo) (c_Mo l D _ (k 8) (k 9) (k 10) rfl q H.size) (tg_in (p := 852) (by decide +kernel) rfl) (tg_in (p := 62) (by decide +kernel) rfl) (tg_in (p := 851) (by decide +kernel) rfl) rfl (by decide +kernel) (fun _ _ h q => ⟨eNm.mv h q.1, eNm.mv h q.2.1, eNm.mv h q.2.2⟩) (⟨h9, h8, h10⟩) hx hb hml hown htg (tg_in (p := 850) (by decide +kernel) rfl) hK hP hD hS hA hl.1 (Nat.le_of_ble_eq_true rfl) dL_12 ⟨Nat.le_of_ble_eq_true rfl, Nat.le_of_ble_eq_true rfl⟩ ⟨Nat.le_of_ble_eq_true rfl, Nat.le_of_ble_eq_true rfl⟩ (fun v H locs hP hD hS => ?_)
  have hP : va_P D vwCl (wiW (k 9) (k 11) (k 12) h u ++ moW (k 8) (k 9) (k 10) q v) H := hP
  have hD : va_D (fun q : Nat => s.heap.size ≤ q) (wiW (k 9) (k 11) (k 12) h u ++ moW (k 8) (k 9) (k 10) q v) := hD
  refine lv_astore_n (lv' := [(2, .ref q), (1, .ref h), (0, .ref b)]) hx hb dL_15 rfl hl (by decide) rfl (fun ls hl => ?_)
  refine va_forget (fun x hx => hS.2.2 x hx) ?_
  have hat : ∀ i, i < nIds → ∃ e, (wiW (k 9) (k 11) (k 12) h u ++ moW (k 8) (k 9) (k 10) q v)[i]? = some (adr b h u q v i, e) := fun i hi => by
    obtain ⟨e, he⟩ := (adr_at (b := b)).2 i hi
    exact ⟨e, by rw [he, Nat.zero_add]⟩
  refine law_tail l hL C0 (w := (adr b h u q v, D, k)) (M := M0 L xs) (L := L0) (S := S0) ?_ rfl hK (cellsAt hP) ⟨hS.1, fun x h1 _ => hS.2.1 x h1 (Nat.not_le.mpr h1), fun _ h => by cases h⟩ ?_ ok0 RC0 RR0 M0_s.1 M0_s.2 (Nat.le_of_ble_eq_true rfl) (Nat.le_of_ble_eq_true rfl) (lv_sub hl [2, 1, 0] rfl)
  · intro i j hi hj hij
    obtain ⟨x, h1⟩ := hat i hi
    obtain ⟨y, h2⟩ := hat j hj
    exact hD.1 i j _ _ h1 h2 hij
  · intro i hi
    obtain ⟨x, h1⟩ := hat i hi
    exact hD.2 i _ h1
