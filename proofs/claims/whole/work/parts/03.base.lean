/-! THE PICTURE OF THE HEAP: a memory of ints and one of longs; references never change -/
def um (M : Mm) (a k : Nat) (v : Int32) : Mm := fun x y => if x = a then (if y = k then v else M x y) else M x y
def ul (L : Ml) (k : Nat) (v : Int64) : Ml := fun y => if y = k then v else L y
/-- n ints of a from i on come to b from j on -/
def uc (M : Mm) (a i b j n : Nat) : Mm := fun x y => if x = b then (if j ≤ y ∧ y < j + n then M a (i + (y - j)) else M b y) else M x y
def up (w : Wc) : Value → Value
  | .ref k => .ref (w.1 k)
  | v => v
def fv (w : Wc) (M : Mm) (L : Ml) (c a k : Nat) : Value := if ft c k = 1 then .ref (w.1 (rfc c a k)) else if ft c k = 2 then .long (L k) else .int (M a k)
def cel (w : Wc) (M : Mm) (L : Ml) (a : Nat) : va_E :=
  if kd a < 8 then .inr (kd a, (List.range (nf (kd a))).map (fv w M L (kd a) a))
  else if kd a < 11 then .inl (w.2.2 (kd a), ln a, .inl (M a))
  else .inl (w.2.2 (kd a), ln a, .inr (.inr (.inr (.inr (fun j => some (w.1 (rfa a j)))))))
def wsM (w : Wc) (M : Mm) (L : Ml) : va_W := (List.range nIds).map (fun a => (w.1 a, cel w M L a))
def frA (w : Wc) : Nat → Prop := fun q => ∃ i, i < nIds ∧ q = w.1 i
def wOk (w : Wc) : Prop := ∀ i j, i < nIds → j < nIds → w.1 i = w.1 j → i = j
def tyW (w : Wc) : List (ClassId × FieldType) := [(w.2.2 8, .byte), (w.2.2 9, .int), (w.2.2 10, .boolean), (w.2.2 11, .object "WinkCircle$Circle"), (w.2.2 12, .array .int)]
theorem gd_def {α : Type} (l : List α) (d : α) {i : Nat} (h : l.length ≤ i) : l.getD i d = d := by
  rw [List.getD_eq_getElem?_getD, List.getElem?_eq_none h]
  rfl
theorem kdL_len : kdL.length = nIds := by decide +kernel
theorem kd_lt {a : Nat} (h : kd a < 99) : a < nIds := by
  unfold kd at h
  rcases Nat.lt_or_ge a nIds with q | q
  · exact q
  · rw [gd_def _ _ (by rw [kdL_len]; exact q)] at h
    exact absurd h (by decide)
theorem kd_le : ∀ a, kd a ≤ 12 ∨ kd a = 99 := by
  intro a
  rcases Nat.lt_or_ge a nIds with q | q
  · exact (show ∀ a, a < nIds → kd a ≤ 12 ∨ kd a = 99 by decide +kernel) a q
  · exact Or.inr (gd_def _ _ (by rw [kdL_len]; exact q))
theorem kd_4 {a : Nat} (h : kd a = 4) : a = 214 := (show ∀ a, a < nIds → kd a = 4 → a = 214 by decide +kernel) a (kd_lt (by rw [h]; decide)) h
theorem ws_get (w : Wc) (M : Mm) (L : Ml) {a : Nat} (h : a < nIds) : (wsM w M L)[a]? = some (w.1 a, cel w M L a) := by
  unfold wsM
  rw [List.getElem?_map, List.getElem?_range h]
  rfl
theorem ws_set (w : Wc) (M M' : Mm) (L L' : Ml) {a : Nat} {e : va_E} (h : a < nIds) (he : cel w M' L' a = e) (ho : ∀ b, b ≠ a → cel w M' L' b = cel w M L b) : (wsM w M L).set a (w.1 a, e) = wsM w M' L' := by
  apply List.ext_getElem?
  intro i
  have hlen : a < (wsM w M L).length := by unfold wsM; rw [List.length_map, List.length_range]; exact h
  by_cases hi : i = a
  · subst hi
    rw [List.getElem?_set_self hlen, ws_get w M' L' h, he]
  · rw [List.getElem?_set_ne (fun q => hi q.symm)]
    by_cases hl : i < nIds
    · rw [ws_get w M L hl, ws_get w M' L' hl, ho i hi]
    · rw [List.getElem?_eq_none, List.getElem?_eq_none]
      · unfold wsM; rw [List.length_map, List.length_range]; omega
      · unfold wsM; rw [List.length_map, List.length_range]; omega
theorem ws_D {w : Wc} (hw : wOk w) (M : Mm) (L : Ml) : va_D (frA w) (wsM w M L) := by
  have key : ∀ (k : Nat) (q : Nat × va_E), (wsM w M L)[k]? = some q → k < nIds ∧ q.1 = w.1 k := by
    intro k q hk
    have hl : k < nIds := by
      have := (List.getElem?_eq_some_iff.mp hk).1
      unfold wsM at this
      rw [List.length_map, List.length_range] at this
      exact this
    rw [ws_get w M L hl] at hk
    cases hk
    exact ⟨hl, rfl⟩
  refine ⟨fun i j x y hi hj hxy => ?_, fun k q hk => ?_⟩
  · obtain ⟨h1, h2⟩ := key i x hi
    obtain ⟨h3, h4⟩ := key j y hj
    exact hw i j h1 h3 (by rw [← h2, ← h4]; exact hxy)
  · obtain ⟨h1, h2⟩ := key k q hk
    exact ⟨k, h1, h2⟩
theorem cel_obj (w : Wc) (M : Mm) (L : Ml) {a c : Nat} (h : kd a = c) (hc : c < 8) : cel w M L a = .inr (c, (List.range (nf c)).map (fv w M L c a)) := by
  unfold cel
  rw [h, if_pos hc]
theorem cel_arr (w : Wc) (M : Mm) (L : Ml) {a c : Nat} (h : kd a = c) (h1 : ¬ c < 8) (h2 : c < 11) : cel w M L a = .inl (w.2.2 c, ln a, .inl (M a)) := by
  unfold cel
  rw [h, if_neg h1, if_pos h2]
theorem cel_ref (w : Wc) (M : Mm) (L : Ml) {a c : Nat} (h : kd a = c) (h2 : ¬ c < 11) : cel w M L a = .inl (w.2.2 c, ln a, .inr (.inr (.inr (.inr (fun j => some (w.1 (rfa a j))))))) := by
  unfold cel
  rw [h, if_neg (by omega), if_neg h2]
theorem um_ne (M : Mm) (a k : Nat) (v : Int32) {b : Nat} (h : b ≠ a) : um M a k v b = M b := by
  funext y
  unfold um
  rw [if_neg h]
theorem um_self (M : Mm) (a k : Nat) (v : Int32) : um M a k v a = upd (M a) k v := by
  funext y
  unfold um upd
  rw [if_pos rfl]
theorem uc_ne (M : Mm) (a i b j n : Nat) {x : Nat} (h : x ≠ b) : uc M a i b j n x = M x := by
  funext y
  unfold uc
  rw [if_neg h]
theorem uc_self (M : Mm) (a i b j n : Nat) : uc M a i b j n b = va_cpy (M a) (M b) i j n := by
  funext y
  unfold uc va_cpy
  rw [if_pos rfl]
theorem cel_um (w : Wc) (M : Mm) (L : Ml) (a k : Nat) (v : Int32) : ∀ b, b ≠ a → cel w (um M a k v) L b = cel w M L b := by
  intro b hb
  have e := um_ne M a k v hb
  have ef : ∀ c, fv w (um M a k v) L c b = fv w M L c b := fun c => by
    funext y
    unfold fv
    rw [e]
  unfold cel
  rw [e, ef]
theorem cel_uc (w : Wc) (M : Mm) (L : Ml) (a i d j n : Nat) : ∀ b, b ≠ d → cel w (uc M a i d j n) L b = cel w M L b := by
  intro b hb
  have e := uc_ne M a i d j n hb
  have ef : ∀ c, fv w (uc M a i d j n) L c b = fv w M L c b := fun c => by
    funext y
    unfold fv
    rw [e]
  unfold cel
  rw [e, ef]
theorem fset {c k : Nat} {f g : Nat → Value} {v : Value} (hv : g k = v) (ho : ∀ j, j ≠ k → g j = f j) : ((List.range (nf c)).map f).set k v = (List.range (nf c)).map g := by
  apply List.ext_getElem?
  intro i
  by_cases hl : i < nf c
  · by_cases hi : i = k
    · subst hi
      rw [List.getElem?_set_self (by rw [List.length_map, List.length_range]; exact hl), List.getElem?_map, List.getElem?_range hl]
      show some v = some (g i)
      rw [hv]
    · rw [List.getElem?_set_ne (fun q => hi q.symm), List.getElem?_map, List.getElem?_map, List.getElem?_range hl]
      show some (f i) = some (g i)
      rw [ho i hi]
  · rw [List.getElem?_eq_none, List.getElem?_eq_none]
    · rw [List.length_map, List.length_range]; omega
    · rw [List.length_set, List.length_map, List.length_range]; omega
theorem put_int (w : Wc) (M : Mm) (L : Ml) {a c k : Nat} {v : Int32} (h : kd a = c) (hc : c < 8) (hf : ft c k = 0 ∨ ft c k = 3) : (wsM w M L).set a (w.1 a, .inr (c, ((List.range (nf c)).map (fv w M L c a)).set k (.int v))) = wsM w (um M a k v) L := by
  refine ws_set w M _ L L (kd_lt (by omega)) ?_ (cel_um w M L a k v)
  rw [cel_obj w _ L h hc]
  refine congrArg (fun z => Sum.inr (c, z)) (fset ?_ ?_).symm
  · unfold fv
    rw [if_neg (by omega), if_neg (by omega)]
    unfold um
    rw [if_pos rfl, if_pos rfl]
  · intro j hj
    unfold fv
    by_cases h1 : ft c j = 1
    · rw [if_pos h1, if_pos h1]
    · rw [if_neg h1, if_neg h1]
      by_cases h2 : ft c j = 2
      · rw [if_pos h2, if_pos h2]
      · rw [if_neg h2, if_neg h2]
        unfold um
        rw [if_pos rfl, if_neg hj]
theorem ft_2 : ∀ c, c < 8 → ∀ k, k < 30 → ft c k = 2 → c = 4 := by decide +kernel
theorem ft_lt {c k x : Nat} (h : ft c k = x) (hx : x < 9) : k < 30 := by
  rcases Nat.lt_or_ge k 30 with q | q
  · exact q
  · exfalso
    unfold ft at h
    rw [gd_def] at h
    · omega
    · have : ∀ c, (ftL.getD c []).length ≤ 30 := by
        intro c
        rcases Nat.lt_or_ge c 8 with q | q
        · exact (show ∀ c, c < 8 → (ftL.getD c []).length ≤ 30 by decide +kernel) c q
        · rw [gd_def ftL [] (by exact q)]
          exact Nat.zero_le _
      exact Nat.le_trans (this c) q
theorem put_long (w : Wc) (M : Mm) (L : Ml) {a k : Nat} {v : Int64} (h : kd a = 4) (hf : ft 4 k = 2) : (wsM w M L).set a (w.1 a, .inr (4, ((List.range (nf 4)).map (fv w M L 4 a)).set k (.long v))) = wsM w M (ul L k v) := by
  refine ws_set w M _ L _ (kd_lt (by omega)) ?_ ?_
  · rw [cel_obj w _ _ h (by decide)]
    refine congrArg (fun z => Sum.inr (4, z)) (fset ?_ ?_).symm
    · unfold fv
      rw [if_neg (by omega), if_pos hf]
      unfold ul
      rw [if_pos rfl]
    · intro j hj
      unfold fv ul
      rw [if_neg hj]
  · intro b hb
    have h4 : kd b ≠ 4 := fun q => hb ((kd_4 q).trans (kd_4 h).symm)
    unfold cel
    by_cases h8 : kd b < 8
    · rw [if_pos h8, if_pos h8]
      refine congrArg (fun z => Sum.inr (kd b, z)) (List.map_congr_left fun y _ => ?_)
      unfold fv
      by_cases h1 : ft (kd b) y = 1
      · rw [if_pos h1, if_pos h1]
      · rw [if_neg h1, if_neg h1, if_neg, if_neg]
        · intro q; exact h4 (ft_2 _ h8 y (ft_lt q (by decide)) q)
        · intro q; exact h4 (ft_2 _ h8 y (ft_lt q (by decide)) q)
    · rw [if_neg h8, if_neg h8]
theorem put_arr (w : Wc) (M : Mm) (L : Ml) {a c j : Nat} {v : Int32} (h : kd a = c) (h1 : ¬ c < 8) (h2 : c < 11) : (wsM w M L).set a (w.1 a, .inl (w.2.2 c, ln a, .inl (upd (M a) j v))) = wsM w (um M a j v) L := by
  refine ws_set w M _ L L (kd_lt (by omega)) ?_ (cel_um w M L a j v)
  rw [cel_arr w _ L h h1 h2, um_self]
theorem put_cpy (w : Wc) (M : Mm) (L : Ml) {a b i j n : Nat} (h : kd b = 9) : (wsM w M L).set b (w.1 b, .inl (w.2.2 9, ln b, .inl (va_cpy (M a) (M b) i j n))) = wsM w (uc M a i b j n) L := by
  refine ws_set w M _ L L (kd_lt (by omega)) ?_ (cel_uc w M L a i b j n)
  rw [cel_arr w _ L h (by decide) (by decide), uc_self]
theorem fv_get (w : Wc) (M : Mm) (L : Ml) (c a : Nat) {k : Nat} (hk : k < nf c) : ((List.range (nf c)).map (fv w M L c a))[k]? = some (fv w M L c a k) := by
  rw [List.getElem?_map, List.getElem?_range hk]
  rfl
