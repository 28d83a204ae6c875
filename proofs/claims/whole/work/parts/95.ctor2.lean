theorem good_tg {y : MethodName} {b : ByteArray} {n : Nat} (h : Cond.code y b n none ∈ tg) : GoodIn tg (.code y b n none :: tg) := fun w hw => by
  rcases List.mem_cons.mp hw with rfl | h'
  · exact ⟨h, good_of_word (List.mem_filter.mp h).2⟩
  · exact ⟨h', good_of_word (List.mem_filter.mp h').2⟩
theorem cdCi : Cond.code yCi bCi 1 none ∈ tg := tg_in (p := 116) (by decide +kernel) rfl
section
variable {p : Program} {l : Launch} {e : Env} {R : Room} {s : State} {m : MethodId} {args : Array Value} {below : List Frame} {meth : Method} {c : Code} {H : Heap} {locs : List Loc} {cells slots : Nat} {Q : State → Prop}
variable {cc : ByteArray} {pc : Nat} {ls : Array Slot} {rest : List Value} {D : va_G} {A : Nat → Prop} {tys : List (ClassId × FieldType)} {X : va_W} {H0 : Heap}
set_option maxHeartbeats 4000000 in
/-- new Circle's call, on the world's last cell -/
theorem callCi {own : String} {idx nL q : Nat} {c9 : ClassId} (hx : p.tables.exec = Jvm.exec) (hb : c.code = cc) (hml : c.maxLocals = nL) (hown : s.vm.findClass own = some m.cls) (htg : ∀ w ∈ tg, w.before args s = true) (hlink : Cond.methodLink own idx yCi ∈ tg) (hK : va_K D vwCl tys s) (h9 : s.vm.findClass ("[" ++ FieldType.int.toString) = some c9)
    (hP : va_P D vwCl (X ++ [(q, ob0)]) H) (hD : va_D A (X ++ [(q, ob0)])) (hS : va_S A H0 H locs) (hA : ∀ q, H0.size ≤ q → A q) (hls : ls.size = nL) (hW : (rest.map fun v => v.category).sum ≤ 8) (hdg : decode cc pc = .ok (.invokespecial idx, 3)) (hR : 2 ≤ R.frames ∧ 32 ≤ R.locals) (hroom : cells + 6 ≤ R.cells ∧ slots + 48 ≤ R.slots)
    (kk : ∀ (u : Nat × Nat × Nat × Nat × Nat × Nat) (H1 : Heap) (locs1 : List Loc), va_P D vwCl (X ++ cirW c9 q u) H1 → va_D A (X ++ cirW c9 q u) → va_S A H0 H1 locs1 → W p l e R s m args below meth c H1 locs1 (cells + 6) (slots + 48) Q (F0 m (pc + 3) ls rest)) : W p l e R s m args below meth c H locs cells slots Q (F0 m pc ls (.ref q :: rest)) := by
  have lst : (X ++ [(q, ob0)])[X.length]? = some (q, ob0) := by
    rw [List.getElem?_append_right (Nat.le_refl _), Nat.sub_self]; rfl
  have hPc : va_P D vwCl [(q, ob0)] H := fun k x hx => by
    have hk : k < 1 := (List.getElem?_eq_some_iff.mp hx).1
    have hk0 : k = 0 := by omega
    subst hk0
    cases hx
    exact hP _ _ lst
  have hDc : va_D (fun _ => True) [(q, ob0)] := ⟨fun i j x y hx hy _ => by
    have h1 : i < 1 := (List.getElem?_eq_some_iff.mp hx).1
    have h2 : j < 1 := (List.getElem?_eq_some_iff.mp hy).1
    omega, fun _ _ _ => trivial⟩
  have hFc : ∀ x, va_A [(q, ob0)] H.size x → A x := fun x hx => by
    rcases hx with ⟨j, e', hj⟩ | hz
    · have hj0 : j < 1 := (List.getElem?_eq_some_iff.mp hj).1
      have hj1 : j = 0 := by omega
      subst hj1
      have hq : q = x := by
        have : some (q, ob0) = some (x, e') := hj
        cases this; rfl
      rw [← hq]; exact hD.2 _ _ lst
    · exact hA x (Nat.le_trans hS.1 hz)
  refine va_callv (va_runI (As := []) (rest := rest) ⟨hx, hb, hml, hown, htg⟩ (c_Ci l D tys c9 q H.size) (cwI 0 htg (good_tg cdCi) rfl rfl rfl (htg (.initialized "WinkCircle$Circle") (tg_in (p := 58) (by decide +kernel) rfl)) (htg _ hlink) (htg (.instanceMethod yCi) (tg_in (p := 115) (by decide +kernel) rfl)) rfl (by decide +kernel) ⟨hR.1, hR.2⟩) ⟨fun a U g mk q => by obtain ⟨q0, q1, qP, qK, qD, q9⟩ := q; exact ⟨q0, q1, qP, va_K.moved (u := U) (U := U.calling g mk a) (Vm.Alike.refl U.vm) qK, qD, q9⟩, fun U hU hW => ⟨rfl, by rw [hU], by rw [hU]; exact hPc, va_K.moved hW.alike hK, hDc, by rw [hW.alike.findClass]; exact h9⟩⟩ rfl rfl hls rfl (lv_room hW) hdg hroom) hS (fun q _ h => hFc q h) hFc (fun u t H1 locs1 ht hvm hw hB hz1 hk1 hS => ?_)
  obtain ⟨hP1, hD1⟩ := hB
  rw [ht] at hP1
  obtain ⟨hP2, hD2⟩ := jn hP hD hk1 hFc hP1 hD1
  exact kk u H1 locs1 hP2 hD2 hS
end
