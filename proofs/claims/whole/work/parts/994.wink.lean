noncomputable def roW (c9 c12 : ClassId) (h0 : Nat) (u : Nat × Nat × Nat) : va_W := ([(h0, .inr (3, [.ref u.1, .ref u.2.1, .ref u.2.2]))] ++ rowsW c9 c12 u.1 ++ [(u.2.1, zr c9 8)] ++ [(u.2.2, .inl (c9, 8, .inl (lnF 8)))])
def taW (c9 : ClassId) (h0 : Nat) (u : Nat) : va_W := [(h0, .inr (5, [.ref u, .int 0, .int 0, .int 0]))] ++ [(u, zr c9 100)]
def asW (c9 : ClassId) (h0 : Nat) (u : Nat) : va_W := [(h0, .inr (1, [.ref u, .int 0, .int 0, .int 0, .int 0, .int 0]))] ++ [(u, zr c9 16)]
def seW (c9 : ClassId) (h0 : Nat) (u : Nat × U6 × Nat × U6 × Nat) : va_W := [(h0, .inr (4, [.ref u.1, .ref u.2.2.1, .ref u.2.2.2.2, .int 0, .int 0, .int 0, .int 0, .int 0, .long 0, .long 0]))] ++ cirW c9 u.1 u.2.1 ++ cirW c9 u.2.2.1 u.2.2.2.1 ++ [(u.2.2.2.2, zr c9 12)]
def acW (c9 c11 : ClassId) (h0 : Nat) (u : Nat × (Nat → Nat) × (Nat → U6)) : va_W := ([(h0, .inr (0, [.ref u.1, .int 0, .int 0])), (u.1, .inl (c11, 24, .inr (.inr (.inr (.inr (fA u.2.1 24))))))] ++ csW c9 u.2.1 u.2.2 24)
def imW (c9 c11 : ClassId) (h0 : Nat) (ad : Nat → Nat) (us : Nat → U6) (i : Nat) : va_W := [(h0, .inl (c11, 2, .inr (.inr (.inr (.inr (fA ad i))))))] ++ csW c9 ad us i
def yWi : MethodName := ⟨"WinkCircle", "<init>", "()V"⟩
abbrev bWi : ByteArray := prog_1_method_1_code
def wWi : List Cond := .code yWi bWi 2 none :: tg
def oWi : va_E := .inr (6, [.null, .null, .null, .null, .null, .null, .null, .null, .int 0, .int 0])
theorem dWi_0 : decode bWi 0 = .ok (.aload_n 0, 1) := by decide +kernel
theorem dWi_1 : decode bWi 1 = .ok (.invokespecial 1, 3) := by decide +kernel
theorem dWi_4 : decode bWi 4 = .ok (.aload_n 0, 1) := by decide +kernel
theorem dWi_5 : decode bWi 5 = .ok (.new 7, 3) := by decide +kernel
theorem dWi_8 : decode bWi 8 = .ok (.dup, 1) := by decide +kernel
theorem dWi_9 : decode bWi 9 = .ok (.invokespecial 9, 3) := by decide +kernel
theorem dWi_12 : decode bWi 12 = .ok (.putfield 10, 3) := by decide +kernel
theorem dWi_15 : decode bWi 15 = .ok (.aload_n 0, 1) := by decide +kernel
theorem dWi_16 : decode bWi 16 = .ok (.new 16, 3) := by decide +kernel
theorem dWi_19 : decode bWi 19 = .ok (.dup, 1) := by decide +kernel
theorem dWi_20 : decode bWi 20 = .ok (.invokespecial 18, 3) := by decide +kernel
theorem dWi_23 : decode bWi 23 = .ok (.putfield 19, 3) := by decide +kernel
theorem dWi_26 : decode bWi 26 = .ok (.aload_n 0, 1) := by decide +kernel
theorem dWi_27 : decode bWi 27 = .ok (.new 23, 3) := by decide +kernel
theorem dWi_30 : decode bWi 30 = .ok (.dup, 1) := by decide +kernel
theorem dWi_31 : decode bWi 31 = .ok (.invokespecial 25, 3) := by decide +kernel
theorem dWi_34 : decode bWi 34 = .ok (.putfield 26, 3) := by decide +kernel
theorem dWi_37 : decode bWi 37 = .ok (.aload_n 0, 1) := by decide +kernel
theorem dWi_38 : decode bWi 38 = .ok (.new 23, 3) := by decide +kernel
theorem dWi_41 : decode bWi 41 = .ok (.dup, 1) := by decide +kernel
theorem dWi_42 : decode bWi 42 = .ok (.invokespecial 25, 3) := by decide +kernel
theorem dWi_45 : decode bWi 45 = .ok (.putfield 30, 3) := by decide +kernel
theorem dWi_48 : decode bWi 48 = .ok (.aload_n 0, 1) := by decide +kernel
theorem dWi_49 : decode bWi 49 = .ok (.new 33, 3) := by decide +kernel
theorem dWi_52 : decode bWi 52 = .ok (.dup, 1) := by decide +kernel
theorem dWi_53 : decode bWi 53 = .ok (.invokespecial 35, 3) := by decide +kernel
theorem dWi_56 : decode bWi 56 = .ok (.putfield 36, 3) := by decide +kernel
theorem dWi_59 : decode bWi 59 = .ok (.aload_n 0, 1) := by decide +kernel
theorem dWi_60 : decode bWi 60 = .ok (.iconst 2, 1) := by decide +kernel
theorem dWi_61 : decode bWi 61 = .ok (.anewarray 23, 3) := by decide +kernel
theorem dWi_64 : decode bWi 64 = .ok (.putfield 40, 3) := by decide +kernel
theorem dWi_67 : decode bWi 67 = .ok (.iconst 0, 1) := by decide +kernel
theorem dWi_68 : decode bWi 68 = .ok (.istore_n 1, 1) := by decide +kernel
theorem dWi_69 : decode bWi 69 = .ok (.iload_n 1, 1) := by decide +kernel
theorem dWi_70 : decode bWi 70 = .ok (.iconst 2, 1) := by decide +kernel
theorem dWi_71 : decode bWi 71 = .ok (.if_icmp .ge 22, 3) := by decide +kernel
theorem dWi_74 : decode bWi 74 = .ok (.aload_n 0, 1) := by decide +kernel
theorem dWi_75 : decode bWi 75 = .ok (.getfield 40, 3) := by decide +kernel
theorem dWi_78 : decode bWi 78 = .ok (.iload_n 1, 1) := by decide +kernel
theorem dWi_79 : decode bWi 79 = .ok (.new 23, 3) := by decide +kernel
theorem dWi_82 : decode bWi 82 = .ok (.dup, 1) := by decide +kernel
theorem dWi_83 : decode bWi 83 = .ok (.invokespecial 25, 3) := by decide +kernel
theorem dWi_86 : decode bWi 86 = .ok (.aastore, 1) := by decide +kernel
theorem dWi_87 : decode bWi 87 = .ok (.iinc 1 1, 3) := by decide +kernel
theorem dWi_90 : decode bWi 90 = .ok (.goto (-21), 3) := by decide +kernel
theorem dWi_93 : decode bWi 93 = .ok (.aload_n 0, 1) := by decide +kernel
theorem dWi_94 : decode bWi 94 = .ok (.new 44, 3) := by decide +kernel
theorem dWi_97 : decode bWi 97 = .ok (.dup, 1) := by decide +kernel
theorem dWi_98 : decode bWi 98 = .ok (.invokespecial 46, 3) := by decide +kernel
theorem dWi_101 : decode bWi 101 = .ok (.putfield 47, 3) := by decide +kernel
theorem dWi_104 : decode bWi 104 = .ok (.aload_n 0, 1) := by decide +kernel
theorem dWi_105 : decode bWi 105 = .ok (.new 51, 3) := by decide +kernel
theorem dWi_108 : decode bWi 108 = .ok (.dup, 1) := by decide +kernel
theorem dWi_109 : decode bWi 109 = .ok (.invokespecial 53, 3) := by decide +kernel
theorem dWi_112 : decode bWi 112 = .ok (.putfield 54, 3) := by decide +kernel
theorem dWi_115 : decode bWi 115 = .ok (.aload_n 0, 1) := by decide +kernel
theorem dWi_116 : decode bWi 116 = .ok (.iconst 0, 1) := by decide +kernel
theorem dWi_117 : decode bWi 117 = .ok (.putfield 58, 3) := by decide +kernel
theorem dWi_120 : decode bWi 120 = .ok (.aload_n 0, 1) := by decide +kernel
theorem dWi_121 : decode bWi 121 = .ok (.iconst 0, 1) := by decide +kernel
theorem dWi_122 : decode bWi 122 = .ok (.putfield 62, 3) := by decide +kernel
theorem dWi_125 : decode bWi 125 = .ok (.return_, 1) := by decide +kernel
section
variable {p : Program} {l : Launch} {e : Env} {R : Room} {s : State} {m : MethodId} {args : Array Value} {below : List Frame} {meth : Method} {c : Code} {Q : State → Prop} {D : va_G} {A : Nat → Prop} {tys : List (ClassId × FieldType)}
set_option maxHeartbeats 4000000 in
theorem wiLoop {c9 c11 : ClassId} {h0 qa kc ks : Nat} {fs : List Value} {Y : va_W} {H0 : Heap} (hx : p.tables.exec = Jvm.exec) (hb : c.code = bWi) (hml : c.maxLocals = 2) (hown : s.vm.findClass RX6 = some m.cls) (htg : ∀ w ∈ tg, w.before args s = true) (hK : va_K D vwCl tys s) (ht : tys[3]? = some (c11, .object RX2)) (h9 : s.vm.findClass ("[" ++ FieldType.int.toString) = some c9) (hA : ∀ q, H0.size ≤ q → A q) (hY : Y[0]? = some (h0, .inr (6, fs))) (hf : fs[5]? = some (.ref qa)) (hR : 2 ≤ R.frames ∧ 32 ≤ R.locals) (hR2 : kc + 14 ≤ R.cells ∧ ks + 120 ≤ R.slots)
    (fin : ∀ (H : Heap) (locs : List Loc) (ls : Array Slot) (ad : Nat → Nat) (us : Nat → U6), va_P D vwCl (Y ++ imW c9 c11 qa ad us 2) H → va_D A (Y ++ imW c9 c11 qa ad us 2) → va_S A H0 H locs → lv_has ls 2 [(1, .int (nI 2)), (0, .ref h0)] → W p l e R s m args below meth c H locs (kc + 14) (ks + 120) Q (F0 m 93 ls [])) :
    ∀ (n i : Nat) (H : Heap) (locs : List Loc) (ls : Array Slot) (ad : Nat → Nat) (us : Nat → U6), i + n = 2 → va_P D vwCl (Y ++ imW c9 c11 qa ad us i) H → va_D A (Y ++ imW c9 c11 qa ad us i) → va_S A H0 H locs → lv_has ls 2 [(1, .int (nI i)), (0, .ref h0)] → W p l e R s m args below meth c H locs (kc + 7 * i) (ks + 60 * i) Q (F0 m 69 ls []) := by
  have hYl : 0 < Y.length := (List.getElem?_eq_some_iff.mp hY).1
  intro n
  induction n with
  | zero =>
    intro i H locs ls ad us hi hP hD hS hl
    have h2 : i = 2 := by omega
    subst h2
    refine lv_iload_n hx hb dWi_69 rfl (lv_at hl 0 rfl) ?_
    refine lv_iconst (v := nI 2) hx hb dWi_70 (by decide) ?_
    refine lv_icmp_ge (tgt := 93) hx hb dWi_71 (by decide) (fun _ => ?_) (fun z => absurd (by decide) z)
    exact fin H locs ls ad us hP hD hS hl
  | succ n ih =>
    intro i H locs ls ad us hi hP hD hS hl
    refine lv_iload_n hx hb dWi_69 rfl (lv_at hl 0 rfl) ?_
    refine lv_iconst (v := nI 2) hx hb dWi_70 (by decide) ?_
    refine lv_icmp_ge (tgt := 93) hx hb dWi_71 (by decide) (fun z => absurd ((nI_leI (by omega) (by omega)).1 z) (by omega)) (fun _ => ?_)
    refine lv_aload_n hx hb dWi_74 rfl (lv_at hl 1 rfl) ?_
    refine va_get (v := .ref qa) (C := RX6) (T := vwT 6) (N := nf 6) hx hb htg (cls_tg inX6) hown hK hP 0 (by rw [List.getElem?_append_left hYl]; exact hY) rfl 5 (by decide) (htg (.fieldLink RX6 40 "WinkCircle" "images" "[LWinkCircle$Circle;") (tg_in (p := 276) (by decide +kernel) rfl)) (fun _ h9 => h9) hf dWi_75 ?_
    refine lv_iload_n hx hb dWi_78 rfl (lv_at hl 0 rfl) ?_
    refine va_new (ci := 2) (fs := [.int 0, .int 0, .int 0, .int 0, .int 0, .int 0, .null, .null, .null, .null, .null, .null]) (C := RX2) (T := vwT 2) (N := nf 2) hx hb htg (cls_tg inX2) tyX2 tyX2_ok hown (htg (.classLink RX6 23 RX2) (tg_in (p := 112) (by decide +kernel) rfl)) (htg (.instantiable RX2 12) (tg_in (p := 113) (by decide +kernel) rfl)) (htg (.initialized RX2) (tg_in (p := 58) (by decide +kernel) rfl)) hK hP hD hS hA rfl (fun j hj => by have hj : j < 12 := hj; rcases (show j = 0 ∨ j = 1 ∨ j = 2 ∨ j = 3 ∨ j = 4 ∨ j = 5 ∨ j = 6 ∨ j = 7 ∨ j = 8 ∨ j = 9 ∨ j = 10 ∨ j = 11 by omega) with rfl | rfl | rfl | rfl | rfl | rfl | rfl | rfl | rfl | rfl | rfl | rfl <;> rfl) (by omega) (by show ks + 60 * i + 12 ≤ _; omega) dWi_79 (fun q H hP hD hS => ?_)
    refine lv_dup hx hb dWi_82 rfl ?_
    refine callCi (c9 := c9) hx hb hml hown htg (tg_in (p := 114) (by decide +kernel) rfl) hK h9 hP hD hS hA hl.1 (Nat.le_of_ble_eq_true rfl) dWi_83 hR ⟨by omega, by show ks + 60 * i + 12 + 48 ≤ _; omega⟩ (fun u H locs hP hD hS => ?_)
    have hv : ((Y ++ imW c9 c11 qa ad us i) ++ cirW c9 q u : va_W)[(Y ++ imW c9 c11 qa ad us i : va_W).length]? = some (q, .inr (2, [.int 0, .int 0, .int 0, .int 0, .int 0, .int 0, .ref u.1, .ref u.2.1, .ref u.2.2.1, .ref u.2.2.2.1, .ref u.2.2.2.2.1, .ref u.2.2.2.2.2])) := by
      rw [List.getElem?_append_right (Nat.le_refl _), Nat.sub_self]; rfl
    have ha : ((Y ++ imW c9 c11 qa ad us i) ++ cirW c9 q u : va_W)[Y.length]? = some (qa, .inl (c11, 2, .inr (.inr (.inr (.inr (fA ad i)))))) := by
      rw [List.append_assoc, List.getElem?_append_right (Nat.le_refl _), Nat.sub_self]; rfl
    refine va_astq hx hb hK hP hD hS Y.length 3 _ 2 ha (r := (RX2, vwT 2, nf 2)) ht hv rfl (vp_in_nI (show i < 2 by omega) (by decide)) dWi_86 (fun H locs hP hD hS => ?_)
    have hset : ((Y ++ imW c9 c11 qa ad us i) ++ cirW c9 q u : va_W).set Y.length (qa, .inl (c11, 2, .inr (.inr (.inr (.inr (va_up (fA ad i) (nI i).toNatClampNeg (some q))))))) = Y ++ imW c9 c11 qa (adU ad i q) (adU us i u) (i + 1) := by
      rw [nI_clamp (by omega), fA_s, List.append_assoc, List.set_append_right _ _ (Nat.le_refl _), Nat.sub_self]
      show Y ++ ((qa, _) :: (csW c9 ad us i ++ cirW c9 q u)) = Y ++ ((qa, _) :: csW c9 (adU ad i q) (adU us i u) (i + 1))
      rw [csW_s]
    rw [hset] at hP hD
    refine lv_iinc (v := nI (i + 1)) (lv' := [(1, .int (nI (i + 1))), (0, .ref h0)]) hx hb dWi_87 hl (k := 0) rfl (by rw [← nI_add]; rfl) (by decide) rfl (fun ls hl => ?_)
    refine lv_goto (tgt := 69) hx hb dWi_90 (by decide) ?_
    have K := ih (i + 1) H locs ls (adU ad i q) (adU us i u) (by omega) hP hD hS hl
    rw [show kc + 7 * i + 1 + 6 = kc + 7 * (i + 1) by omega, show ks + 60 * i + nf 2 + 48 = ks + 60 * (i + 1) by show ks + 60 * i + 12 + 48 = _; omega]
    exact K
end
noncomputable def wiW (c9 c11 c12 : ClassId) (h0 : Nat) (u : (Nat × (Nat × Nat × Nat)) × (Nat × Nat) × (Nat × U6) × (Nat × U6) × (Nat × Nat × (Nat → Nat) × (Nat → U6)) × (Nat × (Nat → Nat) × (Nat → U6)) × (Nat × Nat × U6 × Nat × U6 × Nat) × (Nat × Nat)) : va_W :=
  [(h0, .inr (6, [.ref u.1.1, .ref u.2.1.1, .ref u.2.2.1.1, .ref u.2.2.2.1.1, .ref u.2.2.2.2.1.1, .ref u.2.2.2.2.2.1.1, .ref u.2.2.2.2.2.2.1.1, .ref u.2.2.2.2.2.2.2.1, .int 0, .int 0]))] ++ roW c9 c12 u.1.1 u.1.2 ++ taW c9 u.2.1.1 u.2.1.2 ++ cirW c9 u.2.2.1.1 u.2.2.1.2 ++ cirW c9 u.2.2.2.1.1 u.2.2.2.1.2 ++ acW c9 c11 u.2.2.2.2.1.1 u.2.2.2.2.1.2 ++ imW c9 c11 u.2.2.2.2.2.1.1 u.2.2.2.2.2.1.2.1 u.2.2.2.2.2.1.2.2 2 ++ seW c9 u.2.2.2.2.2.2.1.1 u.2.2.2.2.2.2.1.2 ++ asW c9 u.2.2.2.2.2.2.2.1 u.2.2.2.2.2.2.2.2
set_option maxHeartbeats 4000000 in
set_option maxRecDepth 100000 in
theorem c_Wi (l : Launch) (D : va_G) (tys : List (ClassId × FieldType)) (c9 c11 c12 : ClassId) (ht1 : tys[1]? = some (c9, .int)) (ht3 : tys[3]? = some (c11, .object RX2)) (h0 sz : Nat) : Met l yWi wWi ({ frames := 3, cells := 231, slots := 2324, locals := 90 }) (va_Pc [.ref h0] (fun U => U.heap.size = sz ∧ va_P D vwCl [(h0, oWi)] U.heap ∧ va_K D vwCl tys U ∧ va_D (fun _ => True) [(h0, oWi)] ∧ U.vm.findClass ("[" ++ FieldType.int.toString) = some c9 ∧ U.vm.findClass ("[" ++ (FieldType.object RX2).toString) = some c11 ∧ va_AO RX2 U ∧ eAA c9 c12 U)) (va_Qv (fun _ : (Nat × (Nat × Nat × Nat)) × (Nat × Nat) × (Nat × U6) × (Nat × U6) × (Nat × Nat × (Nat → Nat) × (Nat → U6)) × (Nat × (Nat → Nat) × (Nat → U6)) × (Nat × Nat × U6 × Nat × U6 × Nat) × (Nat × Nat) => True) (fun u t => va_P D vwCl (wiW c9 c11 c12 h0 u) t.heap ∧ va_D (va_A [(h0, oWi)] sz) (wiW c9 c11 c12 h0 u)) (va_A [(h0, oWi)] sz)) 231 2324 (va_A [(h0, oWi)] sz) := by
  refine Met.ofW (cc := bWi) (maxL := 2) (ret := none) (by decide) rfl ?_
  intro p e s m args below meth c s₁ B hml hv
  obtain ⟨rfl, hsz, hP, hK, hD0, h9, h11, hAO, hAA⟩ := hv
  have hx := B.exec
  have hb := B.bytes
  have hr := B.returns
  have hts := atoms_spec (ws := wWi) B.pre
  have hown : s.vm.findClass RX6 = some m.cls := findClass_of_methodNamed B.named
  have hlocks := B.notSynchronized
  have hin : meth.name = "<init>" := (name_of_methodNamed B.named B.method).1
  have htg : ∀ q ∈ tg, q.before _ s = true := fun q hq => hts q (List.mem_cons_of_mem _ hq)
  subst hsz
  have hD := hD0.self (sz := s.heap.size)
  generalize hAe : va_A [(h0, oWi)] s.heap.size = A at hD ⊢
  have hA : ∀ q : Nat, s.heap.size ≤ q → A q := fun q h => by rw [← hAe]; exact Or.inr h
  have hS : va_S A s.heap s.heap [] := va_S.rf
  have hl := lv_entry ([.ref h0]) (n := 2) (Nat.le_of_ble_eq_true rfl)
  rw [lg_entry_eq]
  generalize (lg_sl ([.ref h0]) ++ List.replicate (2 - (lg_sl ([.ref h0])).length) Slot.unset).toArray = ls at hl ⊢
  have hl : lv_has ls 2 [(0, .ref h0)] := hl
  have harr : (Cond.arrayClass .int).before _ s = true := (htg (.arrayClass .int) (tg_in (p := 92) (by decide +kernel) rfl))
  refine lv_aload_n hx hb dWi_0 rfl (lv_at hl 0 rfl) ?_
  refine W.objInit hx hb hown (htg (.methodLink RX6 1 objectInit) (tg_in (p := 71) (by decide +kernel) rfl)) (htg (.instanceMethod objectInit) (tg_in (p := 72) (by decide +kernel) rfl)) (htg (.code objectInit ⟨#[0xb1]⟩ 1 none) (tg_in (p := 73) (by decide +kernel) rfl)) rfl (by rw [hml]; exact hl.1) rfl dWi_1 (Nat.le_of_ble_eq_true rfl) (Nat.le_of_ble_eq_true rfl) ?_
  refine W.eq (g2 := F0 m 4 ls []) rfl ?_
  have hP : va_P D vwCl ([(h0, .inr (6, [.null, .null, .null, .null, .null, .null, .null, .null, .int 0, .int 0]))]) s.heap := hP
  have hD : va_D A ([(h0, .inr (6, [.null, .null, .null, .null, .null, .null, .null, .null, .int 0, .int 0]))]) := hD
  refine lv_aload_n hx hb dWi_4 rfl (lv_at hl 0 rfl) ?_
  refine va_new (ci := 3) (fs := [.null, .null, .null]) (C := RX3) (T := vwT 3) (N := nf 3) hx hb htg (cls_tg inX3) tyX3 tyX3_ok hown (htg (.classLink RX6 7 RX3) (tg_in (p := 74) (by decide +kernel) rfl)) (htg (.instantiable RX3 3) (tg_in (p := 75) (by decide +kernel) rfl)) (htg (.initialized RX3) (tg_in (p := 56) (by decide +kernel) rfl)) hK hP hD hS hA rfl (fun j hj => by have hj : j < 3 := hj; rcases (show j = 0 ∨ j = 1 ∨ j = 2 by omega) with rfl | rfl | rfl <;> rfl) (Nat.le_of_ble_eq_true rfl) (Nat.le_of_ble_eq_true rfl) dWi_5 (fun r H hP hD hS => ?_)
  refine lv_dup hx hb dWi_8 rfl ?_
  refine callK (y := yRo) (bb := bRo) (ob := oRo) (c_Ro l D tys c9 c12 ht1 r H.size) (tg_in (p := 78) (by decide +kernel) rfl) (tg_in (p := 56) (by decide +kernel) rfl) (tg_in (p := 77) (by decide +kernel) rfl) rfl (by decide +kernel) (fun _ _ h q => ⟨eNm.mv h q.1, q.2.mv h⟩) (⟨h9, hAA⟩) hx hb hml hown htg (tg_in (p := 76) (by decide +kernel) rfl) hK hP hD hS hA hl.1 (Nat.le_of_ble_eq_true rfl) dWi_9 ⟨Nat.le_of_ble_eq_true rfl, Nat.le_of_ble_eq_true rfl⟩ ⟨Nat.le_of_ble_eq_true rfl, Nat.le_of_ble_eq_true rfl⟩ (fun ur H locs hP hD hS => ?_)
  have hP : va_P D vwCl ([(h0, .inr (6, [.null, .null, .null, .null, .null, .null, .null, .null, .int 0, .int 0]))] ++ roW c9 c12 r ur) H := hP
  have hD : va_D A ([(h0, .inr (6, [.null, .null, .null, .null, .null, .null, .null, .null, .int 0, .int 0]))] ++ roW c9 c12 r ur) := hD
  refine va_putF (D := D) (ci := 6) (v := .ref r) (ty := .object "WinkCircle$Rows") (C := RX6) (T := vwT 6) (N := nf 6) hx hb htg (cls_tg inX6) tyX6 tyX6_ok nmX6 hown hK hP hD hS 0 rfl rfl 0 (by decide) (htg (.fieldLink RX6 10 "WinkCircle" "rows" "LWinkCircle$Rows;") (tg_in (p := 271) (by decide +kernel) rfl)) (fun _ h9 => h9) rfl hin rfl (by decide +kernel) rfl rfl (Nat.le_of_ble_eq_true rfl) dWi_12 (fun H locs hP hD hS => ?_)
  have hP : va_P D vwCl ([(h0, .inr (6, [.ref r, .null, .null, .null, .null, .null, .null, .null, .int 0, .int 0]))] ++ roW c9 c12 r ur) H := hP
  have hD : va_D A ([(h0, .inr (6, [.ref r, .null, .null, .null, .null, .null, .null, .null, .int 0, .int 0]))] ++ roW c9 c12 r ur) := hD
  refine lv_aload_n hx hb dWi_15 rfl (lv_at hl 0 rfl) ?_
  refine va_new (ci := 5) (fs := [.null, .int 0, .int 0, .int 0]) (C := RX5) (T := vwT 5) (N := nf 5) hx hb htg (cls_tg inX5) tyX5 tyX5_ok hown (htg (.classLink RX6 16 RX5) (tg_in (p := 93) (by decide +kernel) rfl)) (htg (.instantiable RX5 4) (tg_in (p := 94) (by decide +kernel) rfl)) (htg (.initialized RX5) (tg_in (p := 57) (by decide +kernel) rfl)) hK hP hD hS hA rfl (fun j hj => by have hj : j < 4 := hj; rcases (show j = 0 ∨ j = 1 ∨ j = 2 ∨ j = 3 by omega) with rfl | rfl | rfl | rfl <;> rfl) (Nat.le_of_ble_eq_true rfl) (Nat.le_of_ble_eq_true rfl) dWi_16 (fun tt H hP hD hS => ?_)
  refine lv_dup hx hb dWi_19 rfl ?_
  refine callK (y := yTa) (bb := bTa) (ob := oTa) (c_Ta l D tys c9 tt H.size) (tg_in (p := 97) (by decide +kernel) rfl) (tg_in (p := 57) (by decide +kernel) rfl) (tg_in (p := 96) (by decide +kernel) rfl) rfl (by decide +kernel) (fun _ _ h q => eNm.mv h q) (h9) hx hb hml hown htg (tg_in (p := 95) (by decide +kernel) rfl) hK hP hD hS hA hl.1 (Nat.le_of_ble_eq_true rfl) dWi_20 ⟨Nat.le_of_ble_eq_true rfl, Nat.le_of_ble_eq_true rfl⟩ ⟨Nat.le_of_ble_eq_true rfl, Nat.le_of_ble_eq_true rfl⟩ (fun ut H locs hP hD hS => ?_)
  have hP : va_P D vwCl ([(h0, .inr (6, [.ref r, .null, .null, .null, .null, .null, .null, .null, .int 0, .int 0]))] ++ roW c9 c12 r ur ++ taW c9 tt ut) H := hP
  have hD : va_D A ([(h0, .inr (6, [.ref r, .null, .null, .null, .null, .null, .null, .null, .int 0, .int 0]))] ++ roW c9 c12 r ur ++ taW c9 tt ut) := hD
  refine va_putF (D := D) (ci := 6) (v := .ref tt) (ty := .object "WinkCircle$Tape") (C := RX6) (T := vwT 6) (N := nf 6) hx hb htg (cls_tg inX6) tyX6 tyX6_ok nmX6 hown hK hP hD hS 0 rfl rfl 1 (by decide) (htg (.fieldLink RX6 19 "WinkCircle" "tape" "LWinkCircle$Tape;") (tg_in (p := 272) (by decide +kernel) rfl)) (fun _ h9 => h9) rfl hin rfl (by decide +kernel) rfl rfl (Nat.le_of_ble_eq_true rfl) dWi_23 (fun H locs hP hD hS => ?_)
  have hP : va_P D vwCl ([(h0, .inr (6, [.ref r, .ref tt, .null, .null, .null, .null, .null, .null, .int 0, .int 0]))] ++ roW c9 c12 r ur ++ taW c9 tt ut) H := hP
  have hD : va_D A ([(h0, .inr (6, [.ref r, .ref tt, .null, .null, .null, .null, .null, .null, .int 0, .int 0]))] ++ roW c9 c12 r ur ++ taW c9 tt ut) := hD
  refine lv_aload_n hx hb dWi_26 rfl (lv_at hl 0 rfl) ?_
  refine va_new (ci := 2) (fs := [.int 0, .int 0, .int 0, .int 0, .int 0, .int 0, .null, .null, .null, .null, .null, .null]) (C := RX2) (T := vwT 2) (N := nf 2) hx hb htg (cls_tg inX2) tyX2 tyX2_ok hown (htg (.classLink RX6 23 RX2) (tg_in (p := 112) (by decide +kernel) rfl)) (htg (.instantiable RX2 12) (tg_in (p := 113) (by decide +kernel) rfl)) (htg (.initialized RX2) (tg_in (p := 58) (by decide +kernel) rfl)) hK hP hD hS hA rfl (fun j hj => by have hj : j < 12 := hj; rcases (show j = 0 ∨ j = 1 ∨ j = 2 ∨ j = 3 ∨ j = 4 ∨ j = 5 ∨ j = 6 ∨ j = 7 ∨ j = 8 ∨ j = 9 ∨ j = 10 ∨ j = 11 by omega) with rfl | rfl | rfl | rfl | rfl | rfl | rfl | rfl | rfl | rfl | rfl | rfl <;> rfl) (Nat.le_of_ble_eq_true rfl) (Nat.le_of_ble_eq_true rfl) dWi_27 (fun n H hP hD hS => ?_)
  refine lv_dup hx hb dWi_30 rfl ?_
  refine callCi (c9 := c9) hx hb hml hown htg (tg_in (p := 114) (by decide +kernel) rfl) hK h9 hP hD hS hA hl.1 (Nat.le_of_ble_eq_true rfl) dWi_31 ⟨Nat.le_of_ble_eq_true rfl, Nat.le_of_ble_eq_true rfl⟩ ⟨Nat.le_of_ble_eq_true rfl, Nat.le_of_ble_eq_true rfl⟩ (fun un H locs hP hD hS => ?_)
  have hP : va_P D vwCl ([(h0, .inr (6, [.ref r, .ref tt, .null, .null, .null, .null, .null, .null, .int 0, .int 0]))] ++ roW c9 c12 r ur ++ taW c9 tt ut ++ cirW c9 n un) H := hP
  have hD : va_D A ([(h0, .inr (6, [.ref r, .ref tt, .null, .null, .null, .null, .null, .null, .int 0, .int 0]))] ++ roW c9 c12 r ur ++ taW c9 tt ut ++ cirW c9 n un) := hD
  refine va_putF (D := D) (ci := 6) (v := .ref n) (ty := .object "WinkCircle$Circle") (C := RX6) (T := vwT 6) (N := nf 6) hx hb htg (cls_tg inX6) tyX6 tyX6_ok nmX6 hown hK hP hD hS 0 rfl rfl 2 (by decide) (htg (.fieldLink RX6 26 "WinkCircle" "now" "LWinkCircle$Circle;") (tg_in (p := 273) (by decide +kernel) rfl)) (fun _ h9 => h9) rfl hin rfl (by decide +kernel) rfl rfl (Nat.le_of_ble_eq_true rfl) dWi_34 (fun H locs hP hD hS => ?_)
  have hP : va_P D vwCl ([(h0, .inr (6, [.ref r, .ref tt, .ref n, .null, .null, .null, .null, .null, .int 0, .int 0]))] ++ roW c9 c12 r ur ++ taW c9 tt ut ++ cirW c9 n un) H := hP
  have hD : va_D A ([(h0, .inr (6, [.ref r, .ref tt, .ref n, .null, .null, .null, .null, .null, .int 0, .int 0]))] ++ roW c9 c12 r ur ++ taW c9 tt ut ++ cirW c9 n un) := hD
  refine lv_aload_n hx hb dWi_37 rfl (lv_at hl 0 rfl) ?_
  refine va_new (ci := 2) (fs := [.int 0, .int 0, .int 0, .int 0, .int 0, .int 0, .null, .null, .null, .null, .null, .null]) (C := RX2) (T := vwT 2) (N := nf 2) hx hb htg (cls_tg inX2) tyX2 tyX2_ok hown (htg (.classLink RX6 23 RX2) (tg_in (p := 112) (by decide +kernel) rfl)) (htg (.instantiable RX2 12) (tg_in (p := 113) (by decide +kernel) rfl)) (htg (.initialized RX2) (tg_in (p := 58) (by decide +kernel) rfl)) hK hP hD hS hA rfl (fun j hj => by have hj : j < 12 := hj; rcases (show j = 0 ∨ j = 1 ∨ j = 2 ∨ j = 3 ∨ j = 4 ∨ j = 5 ∨ j = 6 ∨ j = 7 ∨ j = 8 ∨ j = 9 ∨ j = 10 ∨ j = 11 by omega) with rfl | rfl | rfl | rfl | rfl | rfl | rfl | rfl | rfl | rfl | rfl | rfl <;> rfl) (Nat.le_of_ble_eq_true rfl) (Nat.le_of_ble_eq_true rfl) dWi_38 (fun dr H hP hD hS => ?_)
  refine lv_dup hx hb dWi_41 rfl ?_
  refine callCi (c9 := c9) hx hb hml hown htg (tg_in (p := 114) (by decide +kernel) rfl) hK h9 hP hD hS hA hl.1 (Nat.le_of_ble_eq_true rfl) dWi_42 ⟨Nat.le_of_ble_eq_true rfl, Nat.le_of_ble_eq_true rfl⟩ ⟨Nat.le_of_ble_eq_true rfl, Nat.le_of_ble_eq_true rfl⟩ (fun ud H locs hP hD hS => ?_)
  have hP : va_P D vwCl ([(h0, .inr (6, [.ref r, .ref tt, .ref n, .null, .null, .null, .null, .null, .int 0, .int 0]))] ++ roW c9 c12 r ur ++ taW c9 tt ut ++ cirW c9 n un ++ cirW c9 dr ud) H := hP
  have hD : va_D A ([(h0, .inr (6, [.ref r, .ref tt, .ref n, .null, .null, .null, .null, .null, .int 0, .int 0]))] ++ roW c9 c12 r ur ++ taW c9 tt ut ++ cirW c9 n un ++ cirW c9 dr ud) := hD
  refine va_putF (D := D) (ci := 6) (v := .ref dr) (ty := .object "WinkCircle$Circle") (C := RX6) (T := vwT 6) (N := nf 6) hx hb htg (cls_tg inX6) tyX6 tyX6_ok nmX6 hown hK hP hD hS 0 rfl rfl 3 (by decide) (htg (.fieldLink RX6 30 "WinkCircle" "draft" "LWinkCircle$Circle;") (tg_in (p := 274) (by decide +kernel) rfl)) (fun _ h9 => h9) rfl hin rfl (by decide +kernel) rfl rfl (Nat.le_of_ble_eq_true rfl) dWi_45 (fun H locs hP hD hS => ?_)
  have hP : va_P D vwCl ([(h0, .inr (6, [.ref r, .ref tt, .ref n, .ref dr, .null, .null, .null, .null, .int 0, .int 0]))] ++ roW c9 c12 r ur ++ taW c9 tt ut ++ cirW c9 n un ++ cirW c9 dr ud) H := hP
  have hD : va_D A ([(h0, .inr (6, [.ref r, .ref tt, .ref n, .ref dr, .null, .null, .null, .null, .int 0, .int 0]))] ++ roW c9 c12 r ur ++ taW c9 tt ut ++ cirW c9 n un ++ cirW c9 dr ud) := hD
  refine lv_aload_n hx hb dWi_48 rfl (lv_at hl 0 rfl) ?_
  refine va_new (ci := 0) (fs := [.null, .int 0, .int 0]) (C := RX0) (T := vwT 0) (N := nf 0) hx hb htg (cls_tg inX0) tyX0 tyX0_ok hown (htg (.classLink RX6 33 RX0) (tg_in (p := 182) (by decide +kernel) rfl)) (htg (.instantiable RX0 3) (tg_in (p := 183) (by decide +kernel) rfl)) (htg (.initialized RX0) (tg_in (p := 59) (by decide +kernel) rfl)) hK hP hD hS hA rfl (fun j hj => by have hj : j < 3 := hj; rcases (show j = 0 ∨ j = 1 ∨ j = 2 by omega) with rfl | rfl | rfl <;> rfl) (Nat.le_of_ble_eq_true rfl) (Nat.le_of_ble_eq_true rfl) dWi_49 (fun a H hP hD hS => ?_)
  refine lv_dup hx hb dWi_52 rfl ?_
  refine callK (y := yAc) (bb := bAc) (ob := oAc) (c_Ac l D tys c9 c11 ht3 a H.size) (tg_in (p := 186) (by decide +kernel) rfl) (tg_in (p := 59) (by decide +kernel) rfl) (tg_in (p := 185) (by decide +kernel) rfl) rfl (by decide +kernel) (fun _ _ h q => ⟨eNm.mv h q.1, eNm.mv h q.2.1, va_AO.moved h q.2.2⟩) (⟨h9, h11, hAO⟩) hx hb hml hown htg (tg_in (p := 184) (by decide +kernel) rfl) hK hP hD hS hA hl.1 (Nat.le_of_ble_eq_true rfl) dWi_53 ⟨Nat.le_of_ble_eq_true rfl, Nat.le_of_ble_eq_true rfl⟩ ⟨Nat.le_of_ble_eq_true rfl, Nat.le_of_ble_eq_true rfl⟩ (fun ua H locs hP hD hS => ?_)
  have hP : va_P D vwCl ([(h0, .inr (6, [.ref r, .ref tt, .ref n, .ref dr, .null, .null, .null, .null, .int 0, .int 0]))] ++ roW c9 c12 r ur ++ taW c9 tt ut ++ cirW c9 n un ++ cirW c9 dr ud ++ acW c9 c11 a ua) H := hP
  have hD : va_D A ([(h0, .inr (6, [.ref r, .ref tt, .ref n, .ref dr, .null, .null, .null, .null, .int 0, .int 0]))] ++ roW c9 c12 r ur ++ taW c9 tt ut ++ cirW c9 n un ++ cirW c9 dr ud ++ acW c9 c11 a ua) := hD
  refine va_putF (D := D) (ci := 6) (v := .ref a) (ty := .object "WinkCircle$Acts") (C := RX6) (T := vwT 6) (N := nf 6) hx hb htg (cls_tg inX6) tyX6 tyX6_ok nmX6 hown hK hP hD hS 0 rfl rfl 4 (by decide) (htg (.fieldLink RX6 36 "WinkCircle" "acts" "LWinkCircle$Acts;") (tg_in (p := 275) (by decide +kernel) rfl)) (fun _ h9 => h9) rfl hin rfl (by decide +kernel) rfl rfl (Nat.le_of_ble_eq_true rfl) dWi_56 (fun H locs hP hD hS => ?_)
  have hP : va_P D vwCl ([(h0, .inr (6, [.ref r, .ref tt, .ref n, .ref dr, .ref a, .null, .null, .null, .int 0, .int 0]))] ++ roW c9 c12 r ur ++ taW c9 tt ut ++ cirW c9 n un ++ cirW c9 dr ud ++ acW c9 c11 a ua) H := hP
  have hD : va_D A ([(h0, .inr (6, [.ref r, .ref tt, .ref n, .ref dr, .ref a, .null, .null, .null, .int 0, .int 0]))] ++ roW c9 c12 r ur ++ taW c9 tt ut ++ cirW c9 n un ++ cirW c9 dr ud ++ acW c9 c11 a ua) := hD
  refine lv_aload_n hx hb dWi_59 rfl (lv_at hl 0 rfl) ?_
  refine lv_iconst (v := nI 2) hx hb dWi_60 (by decide) ?_
  refine va_newq (C := RX2) hx hb hown (htg (.classLink RX6 23 RX2) (tg_in (p := 112) (by decide +kernel) rfl)) hAO hK hP hD hS hA (N' := 2) (nI_pos (by decide)) (nI_clamp (by decide)) (by decide) (Nat.le_of_ble_eq_true rfl) (Nat.le_of_ble_eq_true rfl) dWi_61 (fun im cA H hK1 hP hD hS => ?_)
  have hcA : cA = c11 := by
    obtain ⟨_, _, _, _, _, r4⟩ := (hK1.2 tys.length (cA, .object RX2) (by rw [List.getElem?_append_right (Nat.le_refl _), Nat.sub_self]; rfl)).2
    exact Option.some.inj (r4.symm.trans h11)
  rw [hcA] at hP hD
  have f0 : (fun _ => none : Nat → Option Nat) = fA (fun _ => 0) 0 := funext fun j => (if_neg (Nat.not_lt_zero j)).symm
  rw [f0] at hP hD
  have hP : va_P D vwCl ([(h0, .inr (6, [.ref r, .ref tt, .ref n, .ref dr, .ref a, .null, .null, .null, .int 0, .int 0]))] ++ roW c9 c12 r ur ++ taW c9 tt ut ++ cirW c9 n un ++ cirW c9 dr ud ++ acW c9 c11 a ua ++ imW c9 c11 im (fun _ => 0) (fun _ => (0, 0, 0, 0, 0, 0)) 0) H := hP
  have hD : va_D A ([(h0, .inr (6, [.ref r, .ref tt, .ref n, .ref dr, .ref a, .null, .null, .null, .int 0, .int 0]))] ++ roW c9 c12 r ur ++ taW c9 tt ut ++ cirW c9 n un ++ cirW c9 dr ud ++ acW c9 c11 a ua ++ imW c9 c11 im (fun _ => 0) (fun _ => (0, 0, 0, 0, 0, 0)) 0) := hD
  refine va_putF (D := D) (ci := 6) (v := .ref im) (ty := .array (.object "WinkCircle$Circle")) (C := RX6) (T := vwT 6) (N := nf 6) hx hb htg (cls_tg inX6) tyX6 tyX6_ok nmX6 hown hK hP hD hS 0 rfl rfl 5 (by decide) (htg (.fieldLink RX6 40 "WinkCircle" "images" "[LWinkCircle$Circle;") (tg_in (p := 276) (by decide +kernel) rfl)) (fun _ h9 => h9) rfl hin rfl (by decide +kernel) rfl rfl (Nat.le_of_ble_eq_true rfl) dWi_64 (fun H locs hP hD hS => ?_)
  have hP : va_P D vwCl ([(h0, .inr (6, [.ref r, .ref tt, .ref n, .ref dr, .ref a, .ref im, .null, .null, .int 0, .int 0]))] ++ roW c9 c12 r ur ++ taW c9 tt ut ++ cirW c9 n un ++ cirW c9 dr ud ++ acW c9 c11 a ua ++ imW c9 c11 im (fun _ => 0) (fun _ => (0, 0, 0, 0, 0, 0)) 0) H := hP
  have hD : va_D A ([(h0, .inr (6, [.ref r, .ref tt, .ref n, .ref dr, .ref a, .ref im, .null, .null, .int 0, .int 0]))] ++ roW c9 c12 r ur ++ taW c9 tt ut ++ cirW c9 n un ++ cirW c9 dr ud ++ acW c9 c11 a ua ++ imW c9 c11 im (fun _ => 0) (fun _ => (0, 0, 0, 0, 0, 0)) 0) := hD
  refine lv_iconst (v := nI 0) hx hb dWi_67 (by decide) ?_
  refine lv_istore_n (lv' := [(1, .int (nI 0)), (0, .ref h0)]) hx hb dWi_68 rfl hl (by decide) rfl (fun ls hl => ?_)
  refine wiLoop (kc := 199) (ks := 2040) (fs := [.ref r, .ref tt, .ref n, .ref dr, .ref a, .ref im, .null, .null, .int 0, .int 0]) (Y := ([(h0, .inr (6, [.ref r, .ref tt, .ref n, .ref dr, .ref a, .ref im, .null, .null, .int 0, .int 0]))] ++ roW c9 c12 r ur ++ taW c9 tt ut ++ cirW c9 n un ++ cirW c9 dr ud ++ acW c9 c11 a ua)) hx hb hml hown htg hK ht3 h9 hA rfl rfl ⟨Nat.le_of_ble_eq_true rfl, Nat.le_of_ble_eq_true rfl⟩ ⟨Nat.le_of_ble_eq_true rfl, Nat.le_of_ble_eq_true rfl⟩ (fun H locs ls ad us hP hD hS hl => ?_) 2 0 H locs ls _ _ (by decide) hP hD hS hl
  have hP : va_P D vwCl ([(h0, .inr (6, [.ref r, .ref tt, .ref n, .ref dr, .ref a, .ref im, .null, .null, .int 0, .int 0]))] ++ roW c9 c12 r ur ++ taW c9 tt ut ++ cirW c9 n un ++ cirW c9 dr ud ++ acW c9 c11 a ua ++ imW c9 c11 im ad us 2) H := hP
  have hD : va_D A ([(h0, .inr (6, [.ref r, .ref tt, .ref n, .ref dr, .ref a, .ref im, .null, .null, .int 0, .int 0]))] ++ roW c9 c12 r ur ++ taW c9 tt ut ++ cirW c9 n un ++ cirW c9 dr ud ++ acW c9 c11 a ua ++ imW c9 c11 im ad us 2) := hD
  refine lv_aload_n hx hb dWi_93 rfl (lv_at hl 1 rfl) ?_
  refine va_new (ci := 4) (fs := [.null, .null, .null, .int 0, .int 0, .int 0, .int 0, .int 0, .long 0, .long 0]) (C := RX4) (T := vwT 4) (N := nf 4) hx hb htg (cls_tg inX4) tyX4 tyX4_ok hown (htg (.classLink RX6 44 RX4) (tg_in (p := 201) (by decide +kernel) rfl)) (htg (.instantiable RX4 10) (tg_in (p := 202) (by decide +kernel) rfl)) (htg (.initialized RX4) (tg_in (p := 60) (by decide +kernel) rfl)) hK hP hD hS hA rfl (fun j hj => by have hj : j < 10 := hj; rcases (show j = 0 ∨ j = 1 ∨ j = 2 ∨ j = 3 ∨ j = 4 ∨ j = 5 ∨ j = 6 ∨ j = 7 ∨ j = 8 ∨ j = 9 by omega) with rfl | rfl | rfl | rfl | rfl | rfl | rfl | rfl | rfl | rfl <;> rfl) (Nat.le_of_ble_eq_true rfl) (Nat.le_of_ble_eq_true rfl) dWi_94 (fun se H hP hD hS => ?_)
  refine lv_dup hx hb dWi_97 rfl ?_
  refine callK (y := ySe) (bb := bSe) (ob := oSe) (c_Se l D tys c9 se H.size) (tg_in (p := 205) (by decide +kernel) rfl) (tg_in (p := 60) (by decide +kernel) rfl) (tg_in (p := 204) (by decide +kernel) rfl) rfl (by decide +kernel) (fun _ _ h q => eNm.mv h q) (h9) hx hb hml hown htg (tg_in (p := 203) (by decide +kernel) rfl) hK hP hD hS hA hl.1 (Nat.le_of_ble_eq_true rfl) dWi_98 ⟨Nat.le_of_ble_eq_true rfl, Nat.le_of_ble_eq_true rfl⟩ ⟨Nat.le_of_ble_eq_true rfl, Nat.le_of_ble_eq_true rfl⟩ (fun uv H locs hP hD hS => ?_)
  have hP : va_P D vwCl ([(h0, .inr (6, [.ref r, .ref tt, .ref n, .ref dr, .ref a, .ref im, .null, .null, .int 0, .int 0]))] ++ roW c9 c12 r ur ++ taW c9 tt ut ++ cirW c9 n un ++ cirW c9 dr ud ++ acW c9 c11 a ua ++ imW c9 c11 im ad us 2 ++ seW c9 se uv) H := hP
  have hD : va_D A ([(h0, .inr (6, [.ref r, .ref tt, .ref n, .ref dr, .ref a, .ref im, .null, .null, .int 0, .int 0]))] ++ roW c9 c12 r ur ++ taW c9 tt ut ++ cirW c9 n un ++ cirW c9 dr ud ++ acW c9 c11 a ua ++ imW c9 c11 im ad us 2 ++ seW c9 se uv) := hD
  refine va_putF (D := D) (ci := 6) (v := .ref se) (ty := .object "WinkCircle$Seer") (C := RX6) (T := vwT 6) (N := nf 6) hx hb htg (cls_tg inX6) tyX6 tyX6_ok nmX6 hown hK hP hD hS 0 rfl rfl 6 (by decide) (htg (.fieldLink RX6 47 "WinkCircle" "seer" "LWinkCircle$Seer;") (tg_in (p := 277) (by decide +kernel) rfl)) (fun _ h9 => h9) rfl hin rfl (by decide +kernel) rfl rfl (Nat.le_of_ble_eq_true rfl) dWi_101 (fun H locs hP hD hS => ?_)
  have hP : va_P D vwCl ([(h0, .inr (6, [.ref r, .ref tt, .ref n, .ref dr, .ref a, .ref im, .ref se, .null, .int 0, .int 0]))] ++ roW c9 c12 r ur ++ taW c9 tt ut ++ cirW c9 n un ++ cirW c9 dr ud ++ acW c9 c11 a ua ++ imW c9 c11 im ad us 2 ++ seW c9 se uv) H := hP
  have hD : va_D A ([(h0, .inr (6, [.ref r, .ref tt, .ref n, .ref dr, .ref a, .ref im, .ref se, .null, .int 0, .int 0]))] ++ roW c9 c12 r ur ++ taW c9 tt ut ++ cirW c9 n un ++ cirW c9 dr ud ++ acW c9 c11 a ua ++ imW c9 c11 im ad us 2 ++ seW c9 se uv) := hD
  refine lv_aload_n hx hb dWi_104 rfl (lv_at hl 1 rfl) ?_
  refine va_new (ci := 1) (fs := [.null, .int 0, .int 0, .int 0, .int 0, .int 0]) (C := RX1) (T := vwT 1) (N := nf 1) hx hb htg (cls_tg inX1) tyX1 tyX1_ok hown (htg (.classLink RX6 51 RX1) (tg_in (p := 246) (by decide +kernel) rfl)) (htg (.instantiable RX1 6) (tg_in (p := 247) (by decide +kernel) rfl)) (htg (.initialized RX1) (tg_in (p := 61) (by decide +kernel) rfl)) hK hP hD hS hA rfl (fun j hj => by have hj : j < 6 := hj; rcases (show j = 0 ∨ j = 1 ∨ j = 2 ∨ j = 3 ∨ j = 4 ∨ j = 5 by omega) with rfl | rfl | rfl | rfl | rfl | rfl <;> rfl) (Nat.le_of_ble_eq_true rfl) (Nat.le_of_ble_eq_true rfl) dWi_105 (fun as H hP hD hS => ?_)
  refine lv_dup hx hb dWi_108 rfl ?_
  refine callK (y := yAs) (bb := bAs) (ob := oAs) (c_As l D tys c9 as H.size) (tg_in (p := 250) (by decide +kernel) rfl) (tg_in (p := 61) (by decide +kernel) rfl) (tg_in (p := 249) (by decide +kernel) rfl) rfl (by decide +kernel) (fun _ _ h q => eNm.mv h q) (h9) hx hb hml hown htg (tg_in (p := 248) (by decide +kernel) rfl) hK hP hD hS hA hl.1 (Nat.le_of_ble_eq_true rfl) dWi_109 ⟨Nat.le_of_ble_eq_true rfl, Nat.le_of_ble_eq_true rfl⟩ ⟨Nat.le_of_ble_eq_true rfl, Nat.le_of_ble_eq_true rfl⟩ (fun uw H locs hP hD hS => ?_)
  have hP : va_P D vwCl ([(h0, .inr (6, [.ref r, .ref tt, .ref n, .ref dr, .ref a, .ref im, .ref se, .null, .int 0, .int 0]))] ++ roW c9 c12 r ur ++ taW c9 tt ut ++ cirW c9 n un ++ cirW c9 dr ud ++ acW c9 c11 a ua ++ imW c9 c11 im ad us 2 ++ seW c9 se uv ++ asW c9 as uw) H := hP
  have hD : va_D A ([(h0, .inr (6, [.ref r, .ref tt, .ref n, .ref dr, .ref a, .ref im, .ref se, .null, .int 0, .int 0]))] ++ roW c9 c12 r ur ++ taW c9 tt ut ++ cirW c9 n un ++ cirW c9 dr ud ++ acW c9 c11 a ua ++ imW c9 c11 im ad us 2 ++ seW c9 se uv ++ asW c9 as uw) := hD
  refine va_putF (D := D) (ci := 6) (v := .ref as) (ty := .object "WinkCircle$Asks") (C := RX6) (T := vwT 6) (N := nf 6) hx hb htg (cls_tg inX6) tyX6 tyX6_ok nmX6 hown hK hP hD hS 0 rfl rfl 7 (by decide) (htg (.fieldLink RX6 54 "WinkCircle" "asks" "LWinkCircle$Asks;") (tg_in (p := 278) (by decide +kernel) rfl)) (fun _ h9 => h9) rfl hin rfl (by decide +kernel) rfl rfl (Nat.le_of_ble_eq_true rfl) dWi_112 (fun H locs hP hD hS => ?_)
  have hP : va_P D vwCl ([(h0, .inr (6, [.ref r, .ref tt, .ref n, .ref dr, .ref a, .ref im, .ref se, .ref as, .int 0, .int 0]))] ++ roW c9 c12 r ur ++ taW c9 tt ut ++ cirW c9 n un ++ cirW c9 dr ud ++ acW c9 c11 a ua ++ imW c9 c11 im ad us 2 ++ seW c9 se uv ++ asW c9 as uw) H := hP
  have hD : va_D A ([(h0, .inr (6, [.ref r, .ref tt, .ref n, .ref dr, .ref a, .ref im, .ref se, .ref as, .int 0, .int 0]))] ++ roW c9 c12 r ur ++ taW c9 tt ut ++ cirW c9 n un ++ cirW c9 dr ud ++ acW c9 c11 a ua ++ imW c9 c11 im ad us 2 ++ seW c9 se uv ++ asW c9 as uw) := hD
  refine lv_aload_n hx hb dWi_115 rfl (lv_at hl 1 rfl) ?_
  refine lv_iconst (v := 0) hx hb dWi_116 (by decide) ?_
  refine va_put (D := D) (ci := 6) (v := .int 0) (ty := .int) (C := RX6) (T := vwT 6) (N := nf 6) hx hb htg (cls_tg inX6) tyX6 tyX6_ok nmX6 hown hK hP hD hS 0 rfl rfl 8 (by decide) (htg (.fieldLink RX6 58 "WinkCircle" "latestFault" "I") (tg_in (p := 279) (by decide +kernel) rfl)) (fun _ h9 => h9) rfl (by decide +kernel) rfl rfl (Nat.le_of_ble_eq_true rfl) dWi_117 (fun H locs hP hD hS => ?_)
  have hP : va_P D vwCl ([(h0, .inr (6, [.ref r, .ref tt, .ref n, .ref dr, .ref a, .ref im, .ref se, .ref as, .int 0, .int 0]))] ++ roW c9 c12 r ur ++ taW c9 tt ut ++ cirW c9 n un ++ cirW c9 dr ud ++ acW c9 c11 a ua ++ imW c9 c11 im ad us 2 ++ seW c9 se uv ++ asW c9 as uw) H := hP
  have hD : va_D A ([(h0, .inr (6, [.ref r, .ref tt, .ref n, .ref dr, .ref a, .ref im, .ref se, .ref as, .int 0, .int 0]))] ++ roW c9 c12 r ur ++ taW c9 tt ut ++ cirW c9 n un ++ cirW c9 dr ud ++ acW c9 c11 a ua ++ imW c9 c11 im ad us 2 ++ seW c9 se uv ++ asW c9 as uw) := hD
  refine lv_aload_n hx hb dWi_120 rfl (lv_at hl 1 rfl) ?_
  refine lv_iconst (v := 0) hx hb dWi_121 (by decide) ?_
  refine va_put (D := D) (ci := 6) (v := .int 0) (ty := .int) (C := RX6) (T := vwT 6) (N := nf 6) hx hb htg (cls_tg inX6) tyX6 tyX6_ok nmX6 hown hK hP hD hS 0 rfl rfl 9 (by decide) (htg (.fieldLink RX6 62 "WinkCircle" "latestFinding" "I") (tg_in (p := 280) (by decide +kernel) rfl)) (fun _ h9 => h9) rfl (by decide +kernel) rfl rfl (Nat.le_of_ble_eq_true rfl) dWi_122 (fun H locs hP hD hS => ?_)
  have hP : va_P D vwCl ([(h0, .inr (6, [.ref r, .ref tt, .ref n, .ref dr, .ref a, .ref im, .ref se, .ref as, .int 0, .int 0]))] ++ roW c9 c12 r ur ++ taW c9 tt ut ++ cirW c9 n un ++ cirW c9 dr ud ++ acW c9 c11 a ua ++ imW c9 c11 im ad us 2 ++ seW c9 se uv ++ asW c9 as uw) H := hP
  have hD : va_D A ([(h0, .inr (6, [.ref r, .ref tt, .ref n, .ref dr, .ref a, .ref im, .ref se, .ref as, .int 0, .int 0]))] ++ roW c9 c12 r ur ++ taW c9 tt ut ++ cirW c9 n un ++ cirW c9 dr ud ++ acW c9 c11 a ua ++ imW c9 c11 im ad us 2 ++ seW c9 se uv ++ asW c9 as uw) := hD
  exact W.vret hx hb hr (fun t ht hW => ⟨⟨((r, ur), (tt, ut), (n, un), (dr, ud), (a, ua), (im, ad, us), (se, uv), (as, uw)), rfl, trivial, by rw [ht]; exact hP, hD⟩, hS.F ht⟩) hS.2.2 dWi_125
