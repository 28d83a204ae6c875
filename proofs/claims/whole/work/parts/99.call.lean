section
variable {p : Program} {l : Launch} {e : Env} {R : Room} {s : State} {m : MethodId} {args : Array Value} {below : List Frame} {meth : Method} {c : Code} {H : Heap} {locs : List Loc} {cells slots : Nat} {Q : State → Prop}
variable {cc : ByteArray} {pc : Nat} {ls : Array Slot} {rest : List Value} {D : va_G} {A : Nat → Prop} {tys : List (ClassId × FieldType)} {X : va_W} {H0 : Heap}
set_option maxHeartbeats 4000000 in
/-- a constructor's call, on the world's last cell -/
theorem callK {own : String} {idx nL q mc ms maxL fr loc : Nat} {ob : va_E} {S : Type} {fw : S → va_W} {E : State → Prop} {y : MethodName} {bb : ByteArray}
    (hM : Met l y (.code y bb maxL none :: tg) { frames := fr, cells := mc, slots := ms, locals := loc } (va_Pc [.ref q] (fun U => U.heap.size = H.size ∧ va_P D vwCl [(q, ob)] U.heap ∧ va_K D vwCl tys U ∧ va_D (fun _ => True) [(q, ob)] ∧ E U)) (va_Qv (fun _ : S => True) (fun u t => va_P D vwCl (fw u) t.heap ∧ va_D (va_A [(q, ob)] H.size) (fw u)) (va_A [(q, ob)] H.size)) mc ms (va_A [(q, ob)] H.size))
    (hcode : Cond.code y bb maxL none ∈ tg) (hini : Cond.initialized y.cls ∈ tg) (hinst : Cond.instanceMethod y ∈ tg) (hy1 : y.name = "<init>") (hyd : y.cls ≠ "java/lang/invoke/MethodHandle" ∧ y.cls ≠ "java/lang/invoke/VarHandle" ∧ (parseMethodDescriptor y.desc).map (fun d => d.parameters.length) = some 0)
    (hE1 : ∀ (u U : State), u.vm.Alike U.vm → E u → E U) (hE : E s)
    (hx : p.tables.exec = Jvm.exec) (hb : c.code = cc) (hml : c.maxLocals = nL) (hown : s.vm.findClass own = some m.cls) (htg : ∀ w ∈ tg, w.before args s = true) (hlink : Cond.methodLink own idx y ∈ tg) (hK : va_K D vwCl tys s)
    (hP : va_P D vwCl (X ++ [(q, ob)]) H) (hD : va_D A (X ++ [(q, ob)])) (hS : va_S A H0 H locs) (hA : ∀ q, H0.size ≤ q → A q) (hls : ls.size = nL) (hW : (rest.map fun v => v.category).sum ≤ 8) (hdg : decode cc pc = .ok (.invokespecial idx, 3)) (hR : fr + 1 ≤ R.frames ∧ 8 + (maxL + 11) + loc ≤ R.locals) (hroom : cells + mc ≤ R.cells ∧ slots + ms ≤ R.slots)
    (kk : ∀ (u : S) (H1 : Heap) (locs1 : List Loc), va_P D vwCl (X ++ fw u) H1 → va_D A (X ++ fw u) → va_S A H0 H1 locs1 → W p l e R s m args below meth c H1 locs1 (cells + mc) (slots + ms) Q (F0 m (pc + 3) ls rest)) : W p l e R s m args below meth c H locs cells slots Q (F0 m pc ls (.ref q :: rest)) := by
  have lst : (X ++ [(q, ob)])[X.length]? = some (q, ob) := by
    rw [List.getElem?_append_right (Nat.le_refl _), Nat.sub_self]; rfl
  have hPc : va_P D vwCl [(q, ob)] H := fun k x hx => by
    have hk : k < 1 := (List.getElem?_eq_some_iff.mp hx).1
    have hk0 : k = 0 := by omega
    subst hk0
    cases hx
    exact hP _ _ lst
  have hDc : va_D (fun _ => True) [(q, ob)] := ⟨fun i j x y hx hy _ => by
    have h1 : i < 1 := (List.getElem?_eq_some_iff.mp hx).1
    have h2 : j < 1 := (List.getElem?_eq_some_iff.mp hy).1
    omega, fun _ _ _ => trivial⟩
  have hFc : ∀ x, va_A [(q, ob)] H.size x → A x := fun x hx => by
    rcases hx with ⟨j, e', hj⟩ | hz
    · have hj0 : j < 1 := (List.getElem?_eq_some_iff.mp hj).1
      have hj1 : j = 0 := by omega
      subst hj1
      have hq : q = x := by
        have : some (q, ob) = some (x, e') := hj
        cases this; rfl
      rw [← hq]; exact hD.2 _ _ lst
    · exact hA x (Nat.le_trans hS.1 hz)
  refine va_callv (va_runI (As := []) (rest := rest) ⟨hx, hb, hml, hown, htg⟩ hM (cwI 0 htg (good_tg hcode) rfl rfl rfl (htg _ hini) (htg _ hlink) (htg _ hinst) hy1 hyd hR) ⟨fun a U g mk q => by obtain ⟨q0, q1, qP, qK, qD, q9⟩ := q; exact ⟨q0, q1, qP, va_K.moved (u := U) (U := U.calling g mk a) (Vm.Alike.refl U.vm) qK, qD, hE1 U (U.calling g mk a) (Vm.Alike.refl U.vm) q9⟩, fun U hU hW => ⟨rfl, by rw [hU], by rw [hU]; exact hPc, va_K.moved hW.alike hK, hDc, hE1 s U hW.alike hE⟩⟩ rfl rfl hls rfl (lv_room hW) hdg hroom) hS (fun q _ h => hFc q h) hFc (fun u t H1 locs1 ht hvm hw hB hz1 hk1 hS => ?_)
  obtain ⟨hP1, hD1⟩ := hB
  rw [ht] at hP1
  obtain ⟨hP2, hD2⟩ := jn hP hD hk1 hFc hP1 hD1
  exact kk u H1 locs1 hP2 hD2 hS
end
/-- what stays of a state while only the machine's own tables warm up -/
def eNm (nm : String) (k : ClassId) (U : State) : Prop := U.vm.findClass nm = some k
theorem eNm.mv {nm : String} {k : ClassId} {u U : State} (h : u.vm.Alike U.vm) (he : eNm nm k u) : eNm nm k U := by
  show U.vm.findClass nm = some k
  rw [h.findClass]; exact he
