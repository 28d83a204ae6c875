def yAc : MethodName := ⟨"WinkCircle$Acts", "<init>", "()V"⟩
abbrev bAc : ByteArray := prog_2_method_1_code
def wAc : List Cond := .code yAc bAc 2 none :: tg
def oAc : va_E := .inr (0, [.null, .int 0, .int 0])
theorem dAc_0 : decode bAc 0 = .ok (.aload_n 0, 1) := by decide +kernel
theorem dAc_1 : decode bAc 1 = .ok (.invokespecial 3, 3) := by decide +kernel
theorem dAc_4 : decode bAc 4 = .ok (.aload_n 0, 1) := by decide +kernel
theorem dAc_5 : decode bAc 5 = .ok (.bipush 24, 2) := by decide +kernel
theorem dAc_7 : decode bAc 7 = .ok (.anewarray 9, 3) := by decide +kernel
theorem dAc_10 : decode bAc 10 = .ok (.putfield 11, 3) := by decide +kernel
theorem dAc_13 : decode bAc 13 = .ok (.iconst 0, 1) := by decide +kernel
theorem dAc_14 : decode bAc 14 = .ok (.istore_n 1, 1) := by decide +kernel
theorem dAc_15 : decode bAc 15 = .ok (.iload_n 1, 1) := by decide +kernel
theorem dAc_16 : decode bAc 16 = .ok (.bipush 24, 2) := by decide +kernel
theorem dAc_18 : decode bAc 18 = .ok (.if_icmp .ge 22, 3) := by decide +kernel
theorem dAc_21 : decode bAc 21 = .ok (.aload_n 0, 1) := by decide +kernel
theorem dAc_22 : decode bAc 22 = .ok (.getfield 11, 3) := by decide +kernel
theorem dAc_25 : decode bAc 25 = .ok (.iload_n 1, 1) := by decide +kernel
theorem dAc_26 : decode bAc 26 = .ok (.new 9, 3) := by decide +kernel
theorem dAc_29 : decode bAc 29 = .ok (.dup, 1) := by decide +kernel
theorem dAc_30 : decode bAc 30 = .ok (.invokespecial 17, 3) := by decide +kernel
theorem dAc_33 : decode bAc 33 = .ok (.aastore, 1) := by decide +kernel
theorem dAc_34 : decode bAc 34 = .ok (.iinc 1 1, 3) := by decide +kernel
theorem dAc_37 : decode bAc 37 = .ok (.goto (-22), 3) := by decide +kernel
theorem dAc_40 : decode bAc 40 = .ok (.aload_n 0, 1) := by decide +kernel
theorem dAc_41 : decode bAc 41 = .ok (.iconst 0, 1) := by decide +kernel
theorem dAc_42 : decode bAc 42 = .ok (.putfield 18, 3) := by decide +kernel
theorem dAc_45 : decode bAc 45 = .ok (.aload_n 0, 1) := by decide +kernel
theorem dAc_46 : decode bAc 46 = .ok (.iconst 0, 1) := by decide +kernel
theorem dAc_47 : decode bAc 47 = .ok (.putfield 22, 3) := by decide +kernel
theorem dAc_50 : decode bAc 50 = .ok (.return_, 1) := by decide +kernel
abbrev U6 : Type := Nat × Nat × Nat × Nat × Nat × Nat
def csW (c9 : ClassId) (ad : Nat → Nat) (us : Nat → U6) : Nat → va_W
  | 0 => []
  | i + 1 => csW c9 ad us i ++ cirW c9 (ad i) (us i)
def fA (ad : Nat → Nat) (i : Nat) : Nat → Option Nat := fun j => if j < i then some (ad j) else none
def adU {α : Type} (ad : Nat → α) (i : Nat) (q : α) : Nat → α := fun j => if j = i then q else ad j
theorem csW_cg {c9 : ClassId} {ad : Nat → Nat} {us : Nat → U6} {i q : Nat} {u : U6} : ∀ k, k ≤ i → csW c9 (adU ad i q) (adU us i u) k = csW c9 ad us k
  | 0, _ => rfl
  | k + 1, h => by
    unfold csW
    rw [csW_cg k (by omega), show adU ad i q k = ad k from if_neg (by omega), show adU us i u k = us k from if_neg (by omega)]
theorem csW_s {c9 : ClassId} {ad : Nat → Nat} {us : Nat → U6} {i q : Nat} {u : U6} : csW c9 (adU ad i q) (adU us i u) (i + 1) = csW c9 ad us i ++ cirW c9 q u := by
  show csW c9 (adU ad i q) (adU us i u) i ++ cirW c9 (adU ad i q i) (adU us i u i) = _
  rw [csW_cg i (Nat.le_refl _), show adU ad i q i = q from if_pos rfl, show adU us i u i = u from if_pos rfl]
theorem fA_s {ad : Nat → Nat} {i q : Nat} : va_up (fA ad i) i (some q) = fA (adU ad i q) (i + 1) := by
  funext j
  unfold va_up fA adU
  by_cases h : j = i
  · rw [if_pos h, if_pos (by omega), if_pos h]
  · rw [if_neg h]
    by_cases h2 : j < i
    · rw [if_pos h2, if_pos (by omega), if_neg h]
    · rw [if_neg h2, if_neg (by omega)]
section
variable {p : Program} {l : Launch} {e : Env} {R : Room} {s : State} {m : MethodId} {args : Array Value} {below : List Frame} {meth : Method} {c : Code} {Q : State → Prop} {D : va_G} {A : Nat → Prop} {tys : List (ClassId × FieldType)}
set_option maxHeartbeats 4000000 in
theorem acLoop {c9 c11 : ClassId} {h0 qa : Nat} {H0 : Heap} (hx : p.tables.exec = Jvm.exec) (hb : c.code = bAc) (hml : c.maxLocals = 2) (hown : s.vm.findClass RX0 = some m.cls) (htg : ∀ w ∈ tg, w.before args s = true) (hK : va_K D vwCl tys s) (ht : tys[3]? = some (c11, .object RX2)) (h9 : s.vm.findClass ("[" ++ FieldType.int.toString) = some c9) (hA : ∀ q, H0.size ≤ q → A q) (hR : 2 ≤ R.frames ∧ 32 ≤ R.locals) (hR2 : 169 ≤ R.cells ∧ 1464 ≤ R.slots)
    (fin : ∀ (H : Heap) (locs : List Loc) (ls : Array Slot) (ad : Nat → Nat) (us : Nat → U6), va_P D vwCl ([(h0, .inr (0, [.ref qa, .int 0, .int 0])), (qa, .inl (c11, 24, .inr (.inr (.inr (.inr (fA ad 24))))))] ++ csW c9 ad us 24) H → va_D A ([(h0, .inr (0, [.ref qa, .int 0, .int 0])), (qa, .inl (c11, 24, .inr (.inr (.inr (.inr (fA ad 24))))))] ++ csW c9 ad us 24) → va_S A H0 H locs → lv_has ls 2 [(1, .int (nI 24)), (0, .ref h0)] → W p l e R s m args below meth c H locs 169 1464 Q (F0 m 40 ls [])) :
    ∀ (n i : Nat) (H : Heap) (locs : List Loc) (ls : Array Slot) (ad : Nat → Nat) (us : Nat → U6), i + n = 24 → va_P D vwCl ([(h0, .inr (0, [.ref qa, .int 0, .int 0])), (qa, .inl (c11, 24, .inr (.inr (.inr (.inr (fA ad i))))))] ++ csW c9 ad us i) H → va_D A ([(h0, .inr (0, [.ref qa, .int 0, .int 0])), (qa, .inl (c11, 24, .inr (.inr (.inr (.inr (fA ad i))))))] ++ csW c9 ad us i) → va_S A H0 H locs → lv_has ls 2 [(1, .int (nI i)), (0, .ref h0)] → W p l e R s m args below meth c H locs (1 + 7 * i) (24 + 60 * i) Q (F0 m 15 ls []) := by
  intro n
  induction n with
  | zero =>
    intro i H locs ls ad us hi hP hD hS hl
    have h24 : i = 24 := by omega
    subst h24
    refine lv_iload_n hx hb dAc_15 rfl (lv_at hl 0 rfl) ?_
    refine lv_bipush (v := nI 24) hx hb dAc_16 (by decide) ?_
    refine lv_icmp_ge (tgt := 40) hx hb dAc_18 (by decide) (fun _ => ?_) (fun z => absurd (by decide) z)
    exact fin H locs ls ad us hP hD hS hl
  | succ n ih =>
    intro i H locs ls ad us hi hP hD hS hl
    refine lv_iload_n hx hb dAc_15 rfl (lv_at hl 0 rfl) ?_
    refine lv_bipush (v := nI 24) hx hb dAc_16 (by decide) ?_
    refine lv_icmp_ge (tgt := 40) hx hb dAc_18 (by decide) (fun z => absurd ((nI_leI (by omega) (by omega)).1 z) (by omega)) (fun _ => ?_)
    refine lv_aload_n hx hb dAc_21 rfl (lv_at hl 1 rfl) ?_
    refine va_get (v := .ref qa) (C := RX0) (T := vwT 0) (N := nf 0) hx hb htg (cls_tg inX0) hown hK hP 0 rfl rfl 0 (by decide) (htg (.fieldLink RX0 11 "WinkCircle$Acts" "before" "[LWinkCircle$Circle;") (tg_in (p := 191) (by decide +kernel) rfl)) (fun _ h9 => h9) rfl dAc_22 ?_
    refine lv_iload_n hx hb dAc_25 rfl (lv_at hl 0 rfl) ?_
    refine va_new (ci := 2) (fs := [.int 0, .int 0, .int 0, .int 0, .int 0, .int 0, .null, .null, .null, .null, .null, .null]) (C := RX2) (T := vwT 2) (N := nf 2) hx hb htg (cls_tg inX2) tyX2 tyX2_ok hown (htg (.classLink RX0 9 RX2) (tg_in (p := 188) (by decide +kernel) rfl)) (htg (.instantiable RX2 12) (tg_in (p := 113) (by decide +kernel) rfl)) (htg (.initialized RX2) (tg_in (p := 58) (by decide +kernel) rfl)) hK hP hD hS hA rfl (fun j hj => by have hj : j < 12 := hj; rcases (show j = 0 ∨ j = 1 ∨ j = 2 ∨ j = 3 ∨ j = 4 ∨ j = 5 ∨ j = 6 ∨ j = 7 ∨ j = 8 ∨ j = 9 ∨ j = 10 ∨ j = 11 by omega) with rfl | rfl | rfl | rfl | rfl | rfl | rfl | rfl | rfl | rfl | rfl | rfl <;> rfl) (by omega) (by show 24 + 60 * i + 12 ≤ _; omega) dAc_26 (fun q H hP hD hS => ?_)
    refine lv_dup hx hb dAc_29 rfl ?_
    refine callCi (c9 := c9) hx hb hml hown htg (tg_in (p := 190) (by decide +kernel) rfl) hK h9 hP hD hS hA hl.1 (Nat.le_of_ble_eq_true rfl) dAc_30 hR ⟨by omega, by show 24 + 60 * i + 12 + 48 ≤ _; omega⟩ (fun u H locs hP hD hS => ?_)
    have hv : (([(h0, .inr (0, [.ref qa, .int 0, .int 0])), (qa, .inl (c11, 24, .inr (.inr (.inr (.inr (fA ad i))))))] ++ csW c9 ad us i) ++ cirW c9 q u : va_W)[([(h0, .inr (0, [.ref qa, .int 0, .int 0])), (qa, .inl (c11, 24, .inr (.inr (.inr (.inr (fA ad i))))))] ++ csW c9 ad us i : va_W).length]? = some (q, .inr (2, [.int 0, .int 0, .int 0, .int 0, .int 0, .int 0, .ref u.1, .ref u.2.1, .ref u.2.2.1, .ref u.2.2.2.1, .ref u.2.2.2.2.1, .ref u.2.2.2.2.2])) := by
      rw [List.getElem?_append_right (Nat.le_refl _), Nat.sub_self]; rfl
    refine va_astq hx hb hK hP hD hS 1 3 _ 2 rfl (r := (RX2, vwT 2, nf 2)) ht hv rfl (vp_in_nI (show i < 24 by omega) (by decide)) dAc_33 (fun H locs hP hD hS => ?_)
    rw [nI_clamp (by omega), fA_s] at hP hD
    have hP : va_P D vwCl ([(h0, .inr (0, [.ref qa, .int 0, .int 0])), (qa, .inl (c11, 24, .inr (.inr (.inr (.inr (fA (adU ad i q) (i + 1)))))))] ++ csW c9 (adU ad i q) (adU us i u) (i + 1)) H := by rw [csW_s]; exact hP
    have hD : va_D A ([(h0, .inr (0, [.ref qa, .int 0, .int 0])), (qa, .inl (c11, 24, .inr (.inr (.inr (.inr (fA (adU ad i q) (i + 1)))))))] ++ csW c9 (adU ad i q) (adU us i u) (i + 1)) := by rw [csW_s]; exact hD
    refine lv_iinc (v := nI (i + 1)) (lv' := [(1, .int (nI (i + 1))), (0, .ref h0)]) hx hb dAc_34 hl (k := 0) rfl (by rw [← nI_add]; rfl) (by decide) rfl (fun ls hl => ?_)
    refine lv_goto (tgt := 15) hx hb dAc_37 (by decide) ?_
    have K := ih (i + 1) H locs ls (adU ad i q) (adU us i u) (by omega) hP hD hS hl
    rw [show 1 + 7 * i + 1 + 6 = 1 + 7 * (i + 1) by omega, show 24 + 60 * i + nf 2 + 48 = 24 + 60 * (i + 1) by show 24 + 60 * i + 12 + 48 = _; omega]
    exact K
end
set_option maxHeartbeats 4000000 in
set_option maxRecDepth 100000 in
theorem c_Ac (l : Launch) (D : va_G) (tys : List (ClassId × FieldType)) (c9 c11 : ClassId) (ht : tys[3]? = some (c11, .object RX2)) (h0 sz : Nat) : Met l yAc wAc ({ frames := 2, cells := 169, slots := 1464, locals := 60 }) (va_Pc [.ref h0] (fun U => U.heap.size = sz ∧ va_P D vwCl [(h0, oAc)] U.heap ∧ va_K D vwCl tys U ∧ va_D (fun _ => True) [(h0, oAc)] ∧ U.vm.findClass ("[" ++ FieldType.int.toString) = some c9 ∧ U.vm.findClass ("[" ++ (FieldType.object RX2).toString) = some c11 ∧ va_AO RX2 U)) (va_Qv (fun _ : Nat × (Nat → Nat) × (Nat → U6) => True) (fun u t => va_P D vwCl (([(h0, .inr (0, [.ref u.1, .int 0, .int 0])), (u.1, .inl (c11, 24, .inr (.inr (.inr (.inr (fA u.2.1 24))))))] ++ csW c9 u.2.1 u.2.2 24)) t.heap ∧ va_D (va_A [(h0, oAc)] sz) (([(h0, .inr (0, [.ref u.1, .int 0, .int 0])), (u.1, .inl (c11, 24, .inr (.inr (.inr (.inr (fA u.2.1 24))))))] ++ csW c9 u.2.1 u.2.2 24))) (va_A [(h0, oAc)] sz)) 169 1464 (va_A [(h0, oAc)] sz) := by
  refine Met.ofW (cc := bAc) (maxL := 2) (ret := none) (by decide) rfl ?_
  intro p e s m args below meth c s₁ B hml hv
  obtain ⟨rfl, hsz, hP, hK, hD0, h9, h11, hAO⟩ := hv
  have hx := B.exec
  have hb := B.bytes
  have hr := B.returns
  have hts := atoms_spec (ws := wAc) B.pre
  have hown : s.vm.findClass RX0 = some m.cls := findClass_of_methodNamed B.named
  have hlocks := B.notSynchronized
  have hin : meth.name = "<init>" := (name_of_methodNamed B.named B.method).1
  have htg : ∀ q ∈ tg, q.before _ s = true := fun q hq => hts q (List.mem_cons_of_mem _ hq)
  subst hsz
  have hD := hD0.self (sz := s.heap.size)
  generalize hAe : va_A [(h0, oAc)] s.heap.size = A at hD ⊢
  have hA : ∀ q : Nat, s.heap.size ≤ q → A q := fun q h => by rw [← hAe]; exact Or.inr h
  have hS : va_S A s.heap s.heap [] := va_S.rf
  have hl := lv_entry ([.ref h0]) (n := 2) (Nat.le_of_ble_eq_true rfl)
  rw [lg_entry_eq]
  generalize (lg_sl ([.ref h0]) ++ List.replicate (2 - (lg_sl ([.ref h0])).length) Slot.unset).toArray = ls at hl ⊢
  have hl : lv_has ls 2 [(0, .ref h0)] := hl
  have harr : (Cond.arrayClass .int).before _ s = true := (htg (.arrayClass .int) (tg_in (p := 92) (by decide +kernel) rfl))
  refine lv_aload_n hx hb dAc_0 rfl (lv_at hl 0 rfl) ?_
  refine W.objInit hx hb hown (htg (.methodLink RX0 3 objectInit) (tg_in (p := 187) (by decide +kernel) rfl)) (htg (.instanceMethod objectInit) (tg_in (p := 72) (by decide +kernel) rfl)) (htg (.code objectInit ⟨#[0xb1]⟩ 1 none) (tg_in (p := 73) (by decide +kernel) rfl)) rfl (by rw [hml]; exact hl.1) rfl dAc_1 (Nat.le_of_ble_eq_true rfl) (Nat.le_of_ble_eq_true rfl) ?_
  refine W.eq (g2 := F0 m 4 ls []) rfl ?_
  have hP : va_P D vwCl [(h0, .inr (0, [.null, .int 0, .int 0]))] s.heap := hP
  have hD : va_D A [(h0, .inr (0, [.null, .int 0, .int 0]))] := hD
  refine lv_aload_n hx hb dAc_4 rfl (lv_at hl 0 rfl) ?_
  refine lv_bipush (v := nI 24) hx hb dAc_5 (by decide) ?_
  refine va_newq (C := RX2) hx hb hown (htg (.classLink RX0 9 RX2) (tg_in (p := 188) (by decide +kernel) rfl)) hAO hK hP hD hS hA (N' := 24) (nI_pos (by decide)) (nI_clamp (by decide)) (by decide) (Nat.le_of_ble_eq_true rfl) (Nat.le_of_ble_eq_true rfl) dAc_7 (fun qa cA H hK1 hP hD hS => ?_)
  have hcA : cA = c11 := by
    obtain ⟨_, _, _, _, _, r4⟩ := (hK1.2 tys.length (cA, .object RX2) (by rw [List.getElem?_append_right (Nat.le_refl _), Nat.sub_self]; rfl)).2
    exact Option.some.inj (r4.symm.trans h11)
  subst hcA
  have hP : va_P D vwCl [(h0, .inr (0, [.null, .int 0, .int 0])), (qa, .inl (cA, 24, .inr (.inr (.inr (.inr (fun _ => none))))))] H := hP
  have hD : va_D A [(h0, .inr (0, [.null, .int 0, .int 0])), (qa, .inl (cA, 24, .inr (.inr (.inr (.inr (fun _ => none))))))] := hD
  refine va_putF (D := D) (ci := 0) (v := .ref qa) (ty := .array (.object "WinkCircle$Circle")) (C := RX0) (T := vwT 0) (N := nf 0) hx hb htg (cls_tg inX0) tyX0 tyX0_ok nmX0 hown hK hP hD hS 0 rfl rfl 0 (by decide) (htg (.fieldLink RX0 11 "WinkCircle$Acts" "before" "[LWinkCircle$Circle;") (tg_in (p := 191) (by decide +kernel) rfl)) (fun _ h9 => h9) rfl hin rfl (by decide +kernel) rfl rfl (Nat.le_of_ble_eq_true rfl) dAc_10 (fun H locs hP hD hS => ?_)
  have f0 : (fun _ => none : Nat → Option Nat) = fA (fun _ => 0) 0 := funext fun j => (if_neg (Nat.not_lt_zero j)).symm
  rw [f0] at hP hD
  have hP : va_P D vwCl ([(h0, .inr (0, [.ref qa, .int 0, .int 0])), (qa, .inl (cA, 24, .inr (.inr (.inr (.inr (fA (fun _ => 0) 0))))))] ++ csW c9 (fun _ => 0) (fun _ => (0, 0, 0, 0, 0, 0)) 0) H := hP
  have hD : va_D A ([(h0, .inr (0, [.ref qa, .int 0, .int 0])), (qa, .inl (cA, 24, .inr (.inr (.inr (.inr (fA (fun _ => 0) 0))))))] ++ csW c9 (fun _ => 0) (fun _ => (0, 0, 0, 0, 0, 0)) 0) := hD
  refine lv_iconst (v := nI 0) hx hb dAc_13 (by decide) ?_
  refine lv_istore_n (lv' := [(1, .int (nI 0)), (0, .ref h0)]) hx hb dAc_14 rfl hl (by decide) rfl (fun ls hl => ?_)
  refine acLoop hx hb hml hown htg hK ht h9 hA ⟨Nat.le_of_ble_eq_true rfl, Nat.le_of_ble_eq_true rfl⟩ ⟨Nat.le_of_ble_eq_true rfl, Nat.le_of_ble_eq_true rfl⟩ (fun H locs ls ad us hP hD hS hl => ?_) 24 0 H locs ls _ _ (by decide) hP hD hS hl
  refine lv_aload_n hx hb dAc_40 rfl (lv_at hl 1 rfl) ?_
  refine lv_iconst (v := 0) hx hb dAc_41 (by decide) ?_
  refine va_put (D := D) (ci := 0) (v := .int 0) (ty := .int) (C := RX0) (T := vwT 0) (N := nf 0) hx hb htg (cls_tg inX0) tyX0 tyX0_ok nmX0 hown hK hP hD hS 0 rfl rfl 1 (by decide) (htg (.fieldLink RX0 18 "WinkCircle$Acts" "oldest" "I") (tg_in (p := 192) (by decide +kernel) rfl)) (fun _ h9 => h9) rfl (by decide +kernel) rfl rfl (Nat.le_of_ble_eq_true rfl) dAc_42 (fun H locs hP hD hS => ?_)
  have hP : va_P D vwCl ([(h0, .inr (0, [.ref qa, .int 0, .int 0])), (qa, .inl (cA, 24, .inr (.inr (.inr (.inr (fA ad 24))))))] ++ csW c9 ad us 24) H := hP
  have hD : va_D A ([(h0, .inr (0, [.ref qa, .int 0, .int 0])), (qa, .inl (cA, 24, .inr (.inr (.inr (.inr (fA ad 24))))))] ++ csW c9 ad us 24) := hD
  refine lv_aload_n hx hb dAc_45 rfl (lv_at hl 1 rfl) ?_
  refine lv_iconst (v := 0) hx hb dAc_46 (by decide) ?_
  refine va_put (D := D) (ci := 0) (v := .int 0) (ty := .int) (C := RX0) (T := vwT 0) (N := nf 0) hx hb htg (cls_tg inX0) tyX0 tyX0_ok nmX0 hown hK hP hD hS 0 rfl rfl 2 (by decide) (htg (.fieldLink RX0 22 "WinkCircle$Acts" "kept" "I") (tg_in (p := 193) (by decide +kernel) rfl)) (fun _ h9 => h9) rfl (by decide +kernel) rfl rfl (Nat.le_of_ble_eq_true rfl) dAc_47 (fun H locs hP hD hS => ?_)
  have hP : va_P D vwCl ([(h0, .inr (0, [.ref qa, .int 0, .int 0])), (qa, .inl (cA, 24, .inr (.inr (.inr (.inr (fA ad 24))))))] ++ csW c9 ad us 24) H := hP
  have hD : va_D A ([(h0, .inr (0, [.ref qa, .int 0, .int 0])), (qa, .inl (cA, 24, .inr (.inr (.inr (.inr (fA ad 24))))))] ++ csW c9 ad us 24) := hD
  exact W.vret hx hb hr (fun t ht hW => ⟨⟨(qa, ad, us), rfl, trivial, by rw [ht]; exact hP, hD⟩, hS.F ht⟩) hS.2.2 dAc_50
