/-! the classes: their field tables -/
theorem cls_ok : ∀ c, c < 8 → ∃ C : String, vwCl[c]? = some (C, vwT c, nf c) ∧ C = cn c ∧ (∀ q ∈ u_ws C (vwT c) (nf c), q ∈ lw_tbl) ∧ (∀ x, x < nf c → ∀ y, y < nf c → x ≠ y → (vwT c x).2.1 ≠ (vwT c y).2.1) ∧ ∃ ty0 : Nat → FieldType, ∀ k, k < nf c → parseFieldDescriptor (vwT c k).2.2.1 = some (ty0 k)
  | 0, _ => ⟨RX0, rfl, rfl, inX0, nmX0, tyX0, tyX0_ok⟩
  | 1, _ => ⟨RX1, rfl, rfl, inX1, nmX1, tyX1, tyX1_ok⟩
  | 2, _ => ⟨RX2, rfl, rfl, inX2, nmX2, tyX2, tyX2_ok⟩
  | 3, _ => ⟨RX3, rfl, rfl, inX3, nmX3, tyX3, tyX3_ok⟩
  | 4, _ => ⟨RX4, rfl, rfl, inX4, nmX4, tyX4, tyX4_ok⟩
  | 5, _ => ⟨RX5, rfl, rfl, inX5, nmX5, tyX5, tyX5_ok⟩
  | 6, _ => ⟨RX6, rfl, rfl, inX6, nmX6, tyX6, tyX6_ok⟩
  | 7, _ => ⟨RX7, rfl, rfl, inX7, nmX7, tyX7, tyX7_ok⟩
  | n + 8, h => absurd h (by omega)
theorem u_ws_good {C : String} {T : u_T} {N : Nat} : ∀ q ∈ u_ws C T N, goodWord q = true := by
  intro q hq
  obtain ⟨k, -, rfl⟩ := List.mem_map.mp hq
  unfold u_lay
  split <;> rfl
theorem cls_tg {c : Nat} {C : String} (h : ∀ q ∈ u_ws C (vwT c) (nf c), q ∈ lw_tbl) : ∀ q ∈ u_ws C (vwT c) (nf c), q ∈ tg := fun q hq => List.mem_filter.mpr ⟨h q hq, u_ws_good q hq⟩
theorem ft_0 : ∀ c, c < 8 → ∀ k, k < nf c → ft c k = 0 → parseFieldDescriptor (vwT c k).2.2.1 = some .int ∧ (vwT c k).2.2.2 = false := by decide +kernel
theorem ft_3 : ∀ c, c < 8 → ∀ k, k < nf c → ft c k = 3 → parseFieldDescriptor (vwT c k).2.2.1 = some .boolean ∧ (vwT c k).2.2.2 = false := by decide +kernel
theorem ft_2' : ∀ k, k < nf 4 → ft 4 k = 2 → parseFieldDescriptor (vwT 4 k).2.2.1 = some .long ∧ (vwT 4 k).2.2.2 = false := by decide +kernel
/-- a field row, used -/
def fWd (n x c k : Nat) : Prop := Cond.fieldLink (cn (mO n)) x (vwT c k).1 (vwT c k).2.1 (vwT c k).2.2.1 ∈ tg ∧ k < nf c ∧ c < 8
theorem fIs_ok {n x c k : Nat} (h : fIs n x c k = true) : fWd n x c k := by
  obtain ⟨r, hr, h⟩ := List.any_eq_true.mp h
  simp only [Bool.and_eq_true, beq_iff_eq] at h
  obtain ⟨⟨⟨h1, h2⟩, h3⟩, h4⟩ := h
  obtain ⟨g1, g2, g3⟩ := fRows_ok r hr
  rw [h1, h2, h3, h4] at g1
  rw [h3, h4] at g2
  rw [h3] at g3
  exact ⟨tg_in g1 rfl, g2, g3⟩
theorem ln_lt (a : Nat) : ln a < 2 ^ 31 := by
  rcases Nat.lt_or_ge a nIds with q | q
  · exact Nat.lt_of_le_of_lt ((show ∀ a, a < nIds → ln a ≤ 1296 by decide +kernel) a q) (by decide)
  · unfold ln
    rw [gd_def _ _ (by rw [show lnL.length = nIds by decide +kernel]; exact q)]
    decide
theorem sc_keep {w : Wc} {M M' : Mm} {s : State} {H H1 : Heap} {locs locs1 : List Loc} (h : scOk w M s H) (hs : va_S (frA w) s.heap H locs) (hs1 : va_S (frA w) s.heap H1 locs1) (hb : w.1 1000 < s.heap.size ∧ ¬ frA w (w.1 1000)) (hM : M' 1000 = M 1000) : scOk w M' s H1 := by
  obtain ⟨Ls, xs, h1, h2, h3, h4⟩ := h
  exact ⟨Ls, xs, h1.kept (by rw [hs.2.1 _ hb.1 hb.2, hs1.2.1 _ hb.1 hb.2]), h2, by rw [hM]; exact h3, by rw [hM]; exact h4⟩
theorem kd_1000 : kd 1000 = 99 := by decide +kernel
theorem kd_n1000 {a : Nat} (h : kd a < 99) : (1000 : Nat) ≠ a := fun q => by rw [← q, kd_1000] at h; exact absurd h (by decide)
section
variable {n d pc : Nat} {Q : Qt} {ls : Lc} {st : List Value} {M : Mm} {L : Ml}

theorem r_getI {x cc b f : Nat} (hd : decode (mC n) pc = .ok (.getfield x, 3)) (hw : fWd n x cc f) (hf : ft cc f = 0 ∨ ft cc f = 3) (hk : kd b = cc) (k : Runs n d Q (pc + 3) ls (.int (M b f) :: st) M L) : Runs n d Q pc ls (.ref b :: st) M L := by
  intro w p l e R s m args below meth c H locs cells slots Z arr a hc hp hs hl hr
  obtain ⟨hw1, hw2, hw3⟩ := hw
  obtain ⟨C, g1, -, g2, -, -⟩ := cls_ok cc hw3
  exact va_get (v := up w (.int (M b f))) a.1 a.2.1 a.2.2.2.2.1 (cls_tg g2) a.2.2.2.1 a.2.2.2.2.2.1 hp.1 b (by rw [ws_get w M L (kd_lt (by omega)), cel_obj w M L hk hw3]) g1 f hw2 (a.2.2.2.2.1 _ hw1) (fun _ h9 => h9) (by rw [fv_get w M L cc b hw2]; exact congrArg some (by unfold fv; rw [if_neg (by omega), if_neg (by omega)]; rfl)) hd (k w p l e R s m args below meth c H locs cells slots Z arr a hc hp hs hl hr)
theorem r_getR {x cc b f : Nat} (hd : decode (mC n) pc = .ok (.getfield x, 3)) (hw : fWd n x cc f) (hf : ft cc f = 1) (hk : kd b = cc) (k : Runs n d Q (pc + 3) ls (.ref (rfc cc b f) :: st) M L) : Runs n d Q pc ls (.ref b :: st) M L := by
  intro w p l e R s m args below meth c H locs cells slots Z arr a hc hp hs hl hr
  obtain ⟨hw1, hw2, hw3⟩ := hw
  obtain ⟨C, g1, -, g2, -, -⟩ := cls_ok cc hw3
  exact va_get (v := up w (.ref (rfc cc b f))) a.1 a.2.1 a.2.2.2.2.1 (cls_tg g2) a.2.2.2.1 a.2.2.2.2.2.1 hp.1 b (by rw [ws_get w M L (kd_lt (by omega)), cel_obj w M L hk hw3]) g1 f hw2 (a.2.2.2.2.1 _ hw1) (fun _ h9 => h9) (by rw [fv_get w M L cc b hw2]; exact congrArg some (by unfold fv; rw [if_pos hf]; rfl)) hd (k w p l e R s m args below meth c H locs cells slots Z arr a hc hp hs hl hr)
theorem r_getL {x b f : Nat} (hd : decode (mC n) pc = .ok (.getfield x, 3)) (hw : fWd n x 4 f) (hf : ft 4 f = 2) (hk : kd b = 4) (k : Runs n d Q (pc + 3) ls (.long (L f) :: st) M L) : Runs n d Q pc ls (.ref b :: st) M L := by
  intro w p l e R s m args below meth c H locs cells slots Z arr a hc hp hs hl hr
  obtain ⟨hw1, hw2, hw3⟩ := hw
  obtain ⟨C, g1, -, g2, -, -⟩ := cls_ok 4 hw3
  exact va_get (v := up w (.long (L f))) a.1 a.2.1 a.2.2.2.2.1 (cls_tg g2) a.2.2.2.1 a.2.2.2.2.2.1 hp.1 b (by rw [ws_get w M L (kd_lt (by omega)), cel_obj w M L hk hw3]) g1 f hw2 (a.2.2.2.2.1 _ hw1) (fun _ h9 => h9) (by rw [fv_get w M L 4 b hw2]; exact congrArg some (by unfold fv; rw [if_neg (by omega), if_pos hf]; rfl)) hd (k w p l e R s m args below meth c H locs cells slots Z arr a hc hp hs hl hr)
theorem r_putI {x cc b f : Nat} {v : Int32} (hd : decode (mC n) pc = .ok (.putfield x, 3)) (hw : fWd n x cc f) (hf : ft cc f = 0 ∨ (ft cc f = 3 ∧ (v = 0 ∨ v = 1))) (hk : kd b = cc) (k : Runs n d Q (pc + 3) ls st (um M b f v) L) : Runs n d Q pc ls (.int v :: .ref b :: st) M L := by
  intro w p l e R s m args below meth c H locs cells slots Z arr a hc hp hs hl hr
  obtain ⟨hw1, hw2, hw3⟩ := hw
  obtain ⟨C, g1, -, g2, g3, ty0, g4⟩ := cls_ok cc hw3
  obtain ⟨ty, e1, e2, e3, e4⟩ : ∃ ty, parseFieldDescriptor (vwT cc f).2.2.1 = some ty ∧ (vwT cc f).2.2.2 = false ∧ narrow ty (.int v) = .int v ∧ fits ty (.int v) = true := by
    rcases hf with hf | ⟨hf, hv⟩
    · exact ⟨.int, (ft_0 cc hw3 f hw2 hf).1, (ft_0 cc hw3 f hw2 hf).2, rfl, rfl⟩
    · refine ⟨.boolean, (ft_3 cc hw3 f hw2 hf).1, (ft_3 cc hw3 f hw2 hf).2, ?_, ?_⟩
      · rcases hv with rfl | rfl <;> decide
      · rcases hv with rfl | rfl <;> decide
  refine va_put (v := .int v) a.1 a.2.1 a.2.2.2.2.1 (cls_tg g2) ty0 g4 g3 a.2.2.2.1 a.2.2.2.2.2.1 hp.1 (ws_D a.2.2.2.2.2.2.2.1 M L) hs b (by rw [ws_get w M L (kd_lt (by omega)), cel_obj w M L hk hw3]) g1 f hw2 (a.2.2.2.2.1 _ hw1) (fun _ h9 => h9) e2 e1 e3 e4 (by rw [List.length_map, List.length_range]; exact hw2) hd (fun H1 locs1 hP1 hD1 hS1 => ?_)
  rw [put_int w M L hk hw3 (by rcases hf with h | h; exact Or.inl h; exact Or.inr h.1)] at hP1
  exact k w p l e R s m args below meth c H1 locs1 cells slots Z arr a hc ⟨hP1, sc_keep hp.2 hs hS1 a.2.2.2.2.2.2.2.2.1 (um_ne M b f v (kd_n1000 (by omega)))⟩ hS1 hl hr
theorem r_putL {x b f : Nat} {v : Int64} (hd : decode (mC n) pc = .ok (.putfield x, 3)) (hw : fWd n x 4 f) (hf : ft 4 f = 2) (hk : kd b = 4) (k : Runs n d Q (pc + 3) ls st M (ul L f v)) : Runs n d Q pc ls (.long v :: .ref b :: st) M L := by
  intro w p l e R s m args below meth c H locs cells slots Z arr a hc hp hs hl hr
  obtain ⟨hw1, hw2, hw3⟩ := hw
  obtain ⟨C, g1, -, g2, g3, ty0, g4⟩ := cls_ok 4 hw3
  refine va_put (v := .long v) (ty := .long) a.1 a.2.1 a.2.2.2.2.1 (cls_tg g2) ty0 g4 g3 a.2.2.2.1 a.2.2.2.2.2.1 hp.1 (ws_D a.2.2.2.2.2.2.2.1 M L) hs b (by rw [ws_get w M L (kd_lt (by omega)), cel_obj w M L hk hw3]) g1 f hw2 (a.2.2.2.2.1 _ hw1) (fun _ h9 => h9) (ft_2' f hw2 hf).2 (ft_2' f hw2 hf).1 rfl rfl (by rw [List.length_map, List.length_range]; exact hw2) hd (fun H1 locs1 hP1 hD1 hS1 => ?_)
  rw [put_long w M L hk hf] at hP1
  exact k w p l e R s m args below meth c H1 locs1 cells slots Z arr a hc ⟨hP1, sc_keep hp.2 hs hS1 a.2.2.2.2.2.2.2.2.1 rfl⟩ hS1 hl hr
theorem r_iald {b j : Nat} (hd : decode (mC n) pc = .ok (.iaload, 1)) (hk : kd b = 9) (hj : j < ln b) (k : Runs n d Q (pc + 1) ls (.int (M b j) :: st) M L) : Runs n d Q pc ls (.int (nI j) :: .ref b :: st) M L := by
  intro w p l e R s m args below meth c H locs cells slots Z arr a hc hp hs hl hr
  have K := k w p l e R s m args below meth c H locs cells slots Z arr a hc hp hs hl hr
  refine va_iald a.1 a.2.1 a.2.2.2.2.2.1 hp.1 b 1 (by rw [ws_get w M L (kd_lt (by omega)), cel_arr w M L hk (by decide) (by decide)]) rfl (vp_in_nI hj (ln_lt b)) hd ?_
  rw [nI_clamp (Nat.lt_trans hj (ln_lt b))]
  exact K
theorem r_bald {b j : Nat} (hd : decode (mC n) pc = .ok (.baload, 1)) (hk : kd b = 8) (hj : j < ln b) (k : Runs n d Q (pc + 1) ls (.int (M b j) :: st) M L) : Runs n d Q pc ls (.int (nI j) :: .ref b :: st) M L := by
  intro w p l e R s m args below meth c H locs cells slots Z arr a hc hp hs hl hr
  have K := k w p l e R s m args below meth c H locs cells slots Z arr a hc hp hs hl hr
  refine va_bald a.1 a.2.1 a.2.2.2.2.2.1 hp.1 b 0 (by rw [ws_get w M L (kd_lt (by omega)), cel_arr w M L hk (by decide) (by decide)]) rfl (vp_in_nI hj (ln_lt b)) hd ?_
  rw [nI_clamp (Nat.lt_trans hj (ln_lt b))]
  exact K
theorem r_zald {b j : Nat} (hd : decode (mC n) pc = .ok (.baload, 1)) (hk : kd b = 10) (hj : j < ln b) (k : Runs n d Q (pc + 1) ls (.int (M b j) :: st) M L) : Runs n d Q pc ls (.int (nI j) :: .ref b :: st) M L := by
  intro w p l e R s m args below meth c H locs cells slots Z arr a hc hp hs hl hr
  have K := k w p l e R s m args below meth c H locs cells slots Z arr a hc hp hs hl hr
  refine va_zald a.1 a.2.1 a.2.2.2.2.2.1 hp.1 b 2 (by rw [ws_get w M L (kd_lt (by omega)), cel_arr w M L hk (by decide) (by decide)]) rfl (vp_in_nI hj (ln_lt b)) hd ?_
  rw [nI_clamp (Nat.lt_trans hj (ln_lt b))]
  exact K
theorem r_iast {b j : Nat} {v : Int32} (hd : decode (mC n) pc = .ok (.iastore, 1)) (hk : kd b = 9) (hj : j < ln b) (k : Runs n d Q (pc + 1) ls st (um M b j v) L) : Runs n d Q pc ls (.int v :: .int (nI j) :: .ref b :: st) M L := by
  intro w p l e R s m args below meth c H locs cells slots Z arr a hc hp hs hl hr
  refine va_iast a.1 a.2.1 a.2.2.2.2.2.1 hp.1 (ws_D a.2.2.2.2.2.2.2.1 M L) hs b 1 (by rw [ws_get w M L (kd_lt (by omega)), cel_arr w M L hk (by decide) (by decide)]) rfl (vp_in_nI hj (ln_lt b)) hd (fun H1 locs1 hP1 hD1 hS1 => ?_)
  rw [nI_clamp (Nat.lt_trans hj (ln_lt b)), put_arr w M L hk (by decide) (by decide)] at hP1
  exact k w p l e R s m args below meth c H1 locs1 cells slots Z arr a hc ⟨hP1, sc_keep hp.2 hs hS1 a.2.2.2.2.2.2.2.2.1 (um_ne M b j _ (kd_n1000 (by omega)))⟩ hS1 hl hr
theorem r_bast {b j : Nat} {v : Int32} (hd : decode (mC n) pc = .ok (.bastore, 1)) (hk : kd b = 8) (hj : j < ln b) (k : Runs n d Q (pc + 1) ls st (um M b j (v.toInt8.toInt32)) L) : Runs n d Q pc ls (.int v :: .int (nI j) :: .ref b :: st) M L := by
  intro w p l e R s m args below meth c H locs cells slots Z arr a hc hp hs hl hr
  refine va_bast a.1 a.2.1 a.2.2.2.2.2.1 hp.1 (ws_D a.2.2.2.2.2.2.2.1 M L) hs b 0 (by rw [ws_get w M L (kd_lt (by omega)), cel_arr w M L hk (by decide) (by decide)]) rfl (vp_in_nI hj (ln_lt b)) hd (fun H1 locs1 hP1 hD1 hS1 => ?_)
  rw [nI_clamp (Nat.lt_trans hj (ln_lt b)), vp_nar_byte, put_arr w M L hk (by decide) (by decide)] at hP1
  exact k w p l e R s m args below meth c H1 locs1 cells slots Z arr a hc ⟨hP1, sc_keep hp.2 hs hS1 a.2.2.2.2.2.2.2.2.1 (um_ne M b j _ (kd_n1000 (by omega)))⟩ hS1 hl hr
theorem r_zast {b j : Nat} {v : Int32} (hd : decode (mC n) pc = .ok (.bastore, 1)) (hk : kd b = 10) (hv : v = 0 ∨ v = 1) (hj : j < ln b) (k : Runs n d Q (pc + 1) ls st (um M b j v) L) : Runs n d Q pc ls (.int v :: .int (nI j) :: .ref b :: st) M L := by
  intro w p l e R s m args below meth c H locs cells slots Z arr a hc hp hs hl hr
  refine va_zast a.1 a.2.1 a.2.2.2.2.2.1 hp.1 (ws_D a.2.2.2.2.2.2.2.1 M L) hs b 2 (by rw [ws_get w M L (kd_lt (by omega)), cel_arr w M L hk (by decide) (by decide)]) rfl (vp_in_nI hj (ln_lt b)) hd (fun H1 locs1 hP1 hD1 hS1 => ?_)
  rw [nI_clamp (Nat.lt_trans hj (ln_lt b)), show vp_nar .boolean v = v by rcases hv with rfl | rfl <;> decide, put_arr w M L hk (by decide) (by decide)] at hP1
  exact k w p l e R s m args below meth c H1 locs1 cells slots Z arr a hc ⟨hP1, sc_keep hp.2 hs hS1 a.2.2.2.2.2.2.2.2.1 (um_ne M b j _ (kd_n1000 (by omega)))⟩ hS1 hl hr
theorem r_aald {b j : Nat} (hd : decode (mC n) pc = .ok (.aaload, 1)) (hk : kd b = 11 ∨ kd b = 12) (hj : j < ln b) (k : Runs n d Q (pc + 1) ls (.ref (rfa b j) :: st) M L) : Runs n d Q pc ls (.int (nI j) :: .ref b :: st) M L := by
  intro w p l e R s m args below meth c H locs cells slots Z arr a hc hp hs hl hr
  have K := k w p l e R s m args below meth c H locs cells slots Z arr a hc hp hs hl hr
  have hin := vp_in_nI hj (ln_lt b)
  have hcl := nI_clamp (Nat.lt_trans hj (ln_lt b))
  rcases hk with hk | hk
  · refine va_aldq a.1 a.2.1 a.2.2.2.2.2.1 hp.1 b 3 (by rw [ws_get w M L (kd_lt (by omega)), cel_ref w M L hk (by decide)]) rfl hin hd ?_
    rw [hcl]
    exact K
  · have ha : (wsM w M L)[b]? = some (w.1 b, .inl (w.2.2 12, ln b, .inr (.inr (.inr (.inr (fun j => some (w.1 (rfa b j)))))))) := by rw [ws_get w M L (kd_lt (by omega)), cel_ref w M L hk (by decide)]
    have hlt : (nI j).toNatClampNeg < ln b := by rw [hcl]; exact hj
    refine W.aald (v := va_rf (some (w.1 (rfa b (nI j).toNatClampNeg)))) (ty := .array .int) a.1 a.2.1 (hp.1 b _ ha) ((a.2.2.2.2.2.1.2 4 _ rfl).1 (ln b) (fun j => va_rf (some (w.1 (rfa b j))))) rfl (fun q => by cases q) (by show ¬ (nI j < 0 ∨ (arrV _ _ _).slots.size ≤ _); rw [arrV_size]; exact hin) (by show (arrV _ _ _).slots[_]? = _; rw [arrV_read _ _ hlt]) rfl rfl hd ?_
    rw [hcl]
    exact K
theorem r_sald {j : Nat} (hd : decode (mC n) pc = .ok (.iaload, 1)) (hj : (j : Int) < (M 1000 0).toInt) (k : Runs n d Q (pc + 1) ls (.int (M 1000 (j + 1)) :: st) M L) : Runs n d Q pc ls (.int (nI j) :: .ref 1000 :: st) M L := by
  intro w p l e R s m args below meth c H locs cells slots Z arr a hc hp hs hl hr
  have K := k w p l e R s m args below meth c H locs cells slots Z arr a hc hp hs hl hr
  obtain ⟨Ls, xs, h1, h2, h3, h4⟩ := hp.2
  rw [h3, nI_toInt (by omega)] at hj
  have hj' : j < Ls := by omega
  rw [h4 j hj'] at K
  refine va_sld a.1 a.2.1 (h1.kept (H1 := s.heap) (by rw [hs.2.1 _ a.2.2.2.2.2.2.2.2.1.1 a.2.2.2.2.2.2.2.2.1.2])) a.2.2.2.2.2.2.2.2.1.1 a.2.2.2.2.2.2.2.2.1.2 hs (vp_in_nI hj' (by omega)) hd ?_
  rw [nI_clamp (by omega)]
  exact K
theorem r_slen (hd : decode (mC n) pc = .ok (.arraylength, 1)) (k : Runs n d Q (pc + 1) ls (.int (M 1000 0) :: st) M L) : Runs n d Q pc ls (.ref 1000 :: st) M L := by
  intro w p l e R s m args below meth c H locs cells slots Z arr a hc hp hs hl hr
  have K := k w p l e R s m args below meth c H locs cells slots Z arr a hc hp hs hl hr
  obtain ⟨Ls, xs, h1, h2, h3, h4⟩ := hp.2
  rw [h3] at K
  exact va_slen a.1 a.2.1 (h1.kept (H1 := s.heap) (by rw [hs.2.1 _ a.2.2.2.2.2.2.2.2.1.1 a.2.2.2.2.2.2.2.2.1.2])) a.2.2.2.2.2.2.2.2.1.1 a.2.2.2.2.2.2.2.2.1.2 hs hd K
theorem r_cpy {x b1 b2 i j mm : Nat} (hd : decode (mC n) pc = .ok (.invokestatic x, 3)) (hx : cpyI.1 = mO n ∧ cpyI.2.1 = x) (hk1 : kd b1 = 9) (hk2 : kd b2 = 9) (h1 : i + mm ≤ ln b1) (h2 : j + mm ≤ ln b2) (k : Runs n d Q (pc + 3) ls [] (uc M b1 i b2 j mm) L) : Runs n d Q pc ls [.int (nI mm), .int (nI j), .ref b2, .int (nI i), .ref b1] M L := by
  intro w p l e R s m args below meth c H locs cells slots Z arr a hc hp hs hl hr
  have l1 := ln_lt b1
  have l2 := ln_lt b2
  have c1 : (nI i).toNatClampNeg = i := nI_clamp (by omega)
  have c2 : (nI j).toNatClampNeg = j := nI_clamp (by omega)
  have c3 : (nI mm).toNatClampNeg = mm := nI_clamp (by omega)
  obtain ⟨q1, q2, q3, q4⟩ := cpy_ok
  have hown := a.2.2.2.1
  rw [← hx.1] at hown
  rw [hx.2] at q1
  have e9 : nativeFrameWords "java/lang/System" "arraycopy" 5 = 7 := by decide +kernel
  have hfr : 1 ≤ R.frames := by have := a.2.2.2.2.2.2.2.2.2.1; omega
  have hlo : ((([] : List Value).map fun v => v.category).sum + (nativeFrameWords "java/lang/System" "arraycopy" 5 + 11)) ≤ R.locals := by
    have := a.2.2.2.2.2.2.2.2.2.2
    rw [e9]
    show 0 + 18 ≤ _
    omega
  refine va_copyi (sp := nI i) (dp := nI j) (n := nI mm) (rest := []) a.1 a.2.1 (a.2.2.1.trans hl.1.symm) hown (a.2.2.2.2.1 _ (tg_in q1 rfl)) (a.2.2.2.2.1 _ (tg_in q2 rfl)) (a.2.2.2.2.1 _ (tg_in q3 rfl)) (a.2.2.2.2.1 _ (tg_in q4 rfl)) a.2.2.2.2.2.1 hp.1 (ws_D a.2.2.2.2.2.2.2.1 M L) hs b1 b2 1 1 (by rw [ws_get w M L (kd_lt (by omega)), cel_arr w M L hk1 (by decide) (by decide)]) (by rw [ws_get w M L (kd_lt (by omega)), cel_arr w M L hk2 (by decide) (by decide)]) rfl rfl rfl (nI_pos (by omega)) (nI_pos (by omega)) (nI_pos (by omega)) (by rw [c1, c3]; exact h1) (by rw [c2, c3]; exact h2) (fun _ _ => rfl) hfr hlo hd (fun H1 locs1 hP1 hD1 hS1 => ?_)
  rw [c1, c2, c3, put_cpy w M L hk2] at hP1
  exact k w p l e R s m args below meth c H1 locs1 cells slots Z arr a hc ⟨hP1, sc_keep hp.2 hs hS1 a.2.2.2.2.2.2.2.2.1 (uc_ne M b1 i b2 j mm (kd_n1000 (by omega)))⟩ hS1 hl hr
theorem r_mmax {t : Nat} {x y : Int32} (hd : decode (mC n) pc = .ok (.invokestatic t, 3)) (hx : mmaxI.1 = mO n ∧ mmaxI.2 = t) (k : Runs n d Q (pc + 3) ls [.int (if x < y then y else x)] M L) : Runs n d Q pc ls [.int y, .int x] M L := by
  intro w p l e R s m args below meth c H locs cells slots Z arr a hc hp hs hl hr
  obtain ⟨q1, q2, q3⟩ := mmax_ok
  have hown := a.2.2.2.1
  rw [← hx.1] at hown
  rw [hx.2] at q1
  exact va_mmax a.1 a.2.1 (a.2.2.1.trans hl.1.symm) hown (a.2.2.2.2.1 _ (tg_in q1 rfl)) (a.2.2.2.2.1 _ (tg_in q2 rfl)) (a.2.2.2.2.1 _ (tg_in q3 rfl)) (a.2.2.2.2.1 _ (tg_in mmax_code rfl)) (by have := a.2.2.2.2.2.2.2.2.2.1; omega) (by have := a.2.2.2.2.2.2.2.2.2.2; show 0 + 13 ≤ _; omega) hc.1 hc.2 hd (k w p l e R s m args below meth c H locs cells slots Z arr a hc hp hs hl hr)
theorem r_mmin {t : Nat} {x y : Int32} (hd : decode (mC n) pc = .ok (.invokestatic t, 3)) (hx : mminI.1 = mO n ∧ mminI.2 = t) (k : Runs n d Q (pc + 3) ls [.int (if y < x then y else x)] M L) : Runs n d Q pc ls [.int y, .int x] M L := by
  intro w p l e R s m args below meth c H locs cells slots Z arr a hc hp hs hl hr
  obtain ⟨q1, q2, q3⟩ := mmin_ok
  have hown := a.2.2.2.1
  rw [← hx.1] at hown
  rw [hx.2] at q1
  exact va_mmin a.1 a.2.1 (a.2.2.1.trans hl.1.symm) hown (a.2.2.2.2.1 _ (tg_in q1 rfl)) (a.2.2.2.2.1 _ (tg_in q2 rfl)) (a.2.2.2.2.1 _ (tg_in q3 rfl)) (a.2.2.2.2.1 _ (tg_in mmin_code rfl)) (by have := a.2.2.2.2.2.2.2.2.2.1; omega) (by have := a.2.2.2.2.2.2.2.2.2.2; show 0 + 13 ≤ _; omega) hc.1 hc.2 hd (k w p l e R s m args below meth c H locs cells slots Z arr a hc hp hs hl hr)
end
