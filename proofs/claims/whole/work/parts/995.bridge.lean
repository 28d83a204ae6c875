/-! the world behind both constructors, cell by cell -/
abbrev Uw : Type := (Nat × (Nat × Nat × Nat)) × (Nat × Nat) × (Nat × U6) × (Nat × U6) × (Nat × Nat × (Nat → Nat) × (Nat → U6)) × (Nat × (Nat → Nat) × (Nat → U6)) × (Nat × Nat × U6 × Nat × U6 × Nat) × (Nat × Nat)
noncomputable def moW (c8 c9 c10 : ClassId) (h0 : Nat) (u : Nat → Nat) : va_W := ([(h0, .inr (7, [.ref (u 1), .ref (u 2), .ref (u 3), .int 0, .ref (u 4), .int 0, .ref (u 5), .ref (u 6), .ref (u 7), .int 0, .ref (u 8), .ref (u 9), .ref (u 10), .ref (u 11), .int 0, .int 0, .int 0, .int 0, .int 0, .int 0, .int 0, .ref (u 12), .ref (u 13), .int 0]))] ++ ([((u 1), .inl (c9, 8, .inl (lnF 8)))] ++ [((u 2), zr c9 8), ((u 3), zr c9 320), ((u 4), zr c9 40), ((u 5), zr c9 54), ((u 6), zr c9 54), ((u 7), zr c9 1296), ((u 8), zr c9 108), ((u 9), zr c10 2), ((u 10), zr c9 8), ((u 11), zr c8 100), ((u 12), zr c9 512), ((u 13), zr c9 16)]))
theorem pL {D : va_G} {cl : List vw_C} {A B : va_W} {H : Heap} (h : va_P D cl (A ++ B) H) : va_P D cl A H := fun k x hx => h k x (by rw [List.getElem?_append_left (List.getElem?_eq_some_iff.mp hx).1]; exact hx)
theorem pR {D : va_G} {cl : List vw_C} {A B : va_W} {H : Heap} (h : va_P D cl (A ++ B) H) : va_P D cl B H := fun k x hx => h (A.length + k) x (by rw [List.getElem?_append_right (by omega), show A.length + k - A.length = k by omega]; exact hx)
theorem csW_P {D : va_G} {c9 : ClassId} {ad : Nat → Nat} {us : Nat → U6} {H : Heap} : ∀ n, va_P D vwCl (csW c9 ad us n) H → ∀ j, j < n → va_P D vwCl (cirW c9 (ad j) (us j)) H
  | 0, _, j, hj => absurd hj (Nat.not_lt_zero j)
  | n + 1, h, j, hj => by
    by_cases e : j = n
    · subst e; exact pR h
    · exact csW_P n (pL h) j (by omega)
def cirA (q : Nat) (u : U6) (j : Nat) : Nat := [q, u.1, u.2.1, u.2.2.1, u.2.2.2.1, u.2.2.2.2.1, u.2.2.2.2.2].getD j 0
theorem circAt {w : Wc} {M : Mm} {L : Ml} {i0 q : Nat} {u : U6} (hk : kd i0 = 2) (hr : ∀ j, j < 7 → 1 ≤ j → kd (i0 + j) = 9 ∧ ln (i0 + j) = 8) (hM : ∀ j, j < 7 → M (i0 + j) = fun _ => 0) (hw : ∀ j, j < 7 → w.1 (i0 + j) = cirA q u j) {H : Heap} (hP : va_P w.2.1 vwCl (cirW (w.2.2 9) q u) H) : ∀ j, j < 7 → va_at w.2.1 vwCl (w.1 (i0 + j), cel w M L (i0 + j)) H := by
  intro j hj
  by_cases h1 : 1 ≤ j
  · have e : cel w M L (i0 + j) = zr (w.2.2 9) 8 := by
      unfold cel
      rw [(hr j hj h1).1, (hr j hj h1).2, hM j hj]
      rfl
    rw [e, hw j hj]
    rcases (show j = 1 ∨ j = 2 ∨ j = 3 ∨ j = 4 ∨ j = 5 ∨ j = 6 by omega) with rfl | rfl | rfl | rfl | rfl | rfl
    · exact hP 1 _ rfl
    · exact hP 2 _ rfl
    · exact hP 3 _ rfl
    · exact hP 4 _ rfl
    · exact hP 5 _ rfl
    · exact hP 6 _ rfl
  · have h0 : j = 0 := by omega
    subst h0
    have hM0 : M i0 = fun _ => 0 := hM 0 (by omega)
    have e : cel w M L (i0 + 0) = .inr (2, [.int (M i0 0), .int (M i0 1), .int (M i0 2), .int (M i0 3), .int (M i0 4), .int (M i0 5), .ref (w.1 (i0 + 1)), .ref (w.1 (i0 + 2)), .ref (w.1 (i0 + 3)), .ref (w.1 (i0 + 4)), .ref (w.1 (i0 + 5)), .ref (w.1 (i0 + 6))]) := by
      show cel w M L i0 = _
      unfold cel
      rw [hk]
      rfl
    rw [e, hM0, hw 0 (by omega), hw 1 (by omega), hw 2 (by omega), hw 3 (by omega), hw 4 (by omega), hw 5 (by omega), hw 6 (by omega)]
    exact hP 0 _ rfl
theorem M0_f {Ls : Nat} {xs : Nat → Int32} {a : Nat} (h1 : a ≠ 12) (h2 : a ≠ 233) (h3 : a ≠ 1000) : M0 Ls xs a = fun _ => 0 := by
  funext j
  unfold M0
  rw [if_neg h1, if_neg h2, if_neg h3]
theorem arrV_cg {c : ClassId} {N : Nat} {f g : Nat → Value} (h : ∀ j, j < N → f j = g j) : arrV c N f = arrV c N g := by
  unfold arrV
  congr 2
  funext j
  exact h j.1 j.2
def adr (b h : Nat) (u : Uw) (q : Nat) (v : Nat → Nat) (i : Nat) : Nat :=
  if i < 15 then [h, u.1.1, u.1.2.1, u.1.2.1 + 1, u.1.2.1 + 2, u.1.2.1 + 3, u.1.2.1 + 4, u.1.2.1 + 5, u.1.2.1 + 6, u.1.2.1 + 7, u.1.2.1 + 8, u.1.2.2.1, u.1.2.2.2, u.2.1.1, u.2.1.2].getD i 0
  else if i < 22 then cirA u.2.2.1.1 u.2.2.1.2 (i - 15)
  else if i < 29 then cirA u.2.2.2.1.1 u.2.2.2.1.2 (i - 22)
  else if i < 31 then [u.2.2.2.2.1.1, u.2.2.2.2.1.2.1].getD (i - 29) 0
  else if i < 199 then cirA (u.2.2.2.2.1.2.2.1 ((i - 31) / 7)) (u.2.2.2.2.1.2.2.2 ((i - 31) / 7)) ((i - 31) % 7)
  else if i < 200 then u.2.2.2.2.2.1.1
  else if i < 214 then cirA (u.2.2.2.2.2.1.2.1 ((i - 200) / 7)) (u.2.2.2.2.2.1.2.2 ((i - 200) / 7)) ((i - 200) % 7)
  else if i < 215 then u.2.2.2.2.2.2.1.1
  else if i < 222 then cirA u.2.2.2.2.2.2.1.2.1 u.2.2.2.2.2.2.1.2.2.1 (i - 215)
  else if i < 229 then cirA u.2.2.2.2.2.2.1.2.2.2.1 u.2.2.2.2.2.2.1.2.2.2.2.1 (i - 222)
  else if i < 232 then [u.2.2.2.2.2.2.1.2.2.2.2.2, u.2.2.2.2.2.2.2.1, u.2.2.2.2.2.2.2.2].getD (i - 229) 0
  else if i < 246 then [q, v 1, v 2, v 3, v 4, v 5, v 6, v 7, v 8, v 9, v 10, v 11, v 12, v 13].getD (i - 232) 0
  else b
theorem adr_15 {b h q : Nat} {u : Uw} {v : Nat → Nat} : ∀ j, j < 7 → adr b h u q v (15 + j) = cirA u.2.2.1.1 u.2.2.1.2 j := by
  intro j hj
  unfold adr
  rw [if_neg (by omega), if_pos (by omega), show 15 + j - 15 = j by omega]
theorem adr_22 {b h q : Nat} {u : Uw} {v : Nat → Nat} : ∀ j, j < 7 → adr b h u q v (22 + j) = cirA u.2.2.2.1.1 u.2.2.2.1.2 j := by
  intro j hj
  unfold adr
  rw [if_neg (by omega), if_neg (by omega), if_pos (by omega), show 22 + j - 22 = j by omega]
theorem adr_215 {b h q : Nat} {u : Uw} {v : Nat → Nat} : ∀ j, j < 7 → adr b h u q v (215 + j) = cirA u.2.2.2.2.2.2.1.2.1 u.2.2.2.2.2.2.1.2.2.1 j := by
  intro j hj
  unfold adr
  rw [if_neg (by omega), if_neg (by omega), if_neg (by omega), if_neg (by omega), if_neg (by omega), if_neg (by omega), if_neg (by omega), if_neg (by omega), if_pos (by omega), show 215 + j - 215 = j by omega]
theorem adr_222 {b h q : Nat} {u : Uw} {v : Nat → Nat} : ∀ j, j < 7 → adr b h u q v (222 + j) = cirA u.2.2.2.2.2.2.1.2.2.2.1 u.2.2.2.2.2.2.1.2.2.2.2.1 j := by
  intro j hj
  unfold adr
  rw [if_neg (by omega), if_neg (by omega), if_neg (by omega), if_neg (by omega), if_neg (by omega), if_neg (by omega), if_neg (by omega), if_neg (by omega), if_neg (by omega), if_pos (by omega), show 222 + j - 222 = j by omega]
theorem adr_31 {b h q : Nat} {u : Uw} {v : Nat → Nat} {t : Nat} (ht : t < 24) : ∀ j, j < 7 → adr b h u q v (31 + 7 * t + j) = cirA (u.2.2.2.2.1.2.2.1 t) (u.2.2.2.2.1.2.2.2 t) j := by
  intro j hj
  unfold adr
  rw [if_neg (by omega), if_neg (by omega), if_neg (by omega), if_neg (by omega), if_pos (by omega), show (31 + 7 * t + j - 31) / 7 = t by omega, show (31 + 7 * t + j - 31) % 7 = j by omega]
theorem adr_200 {b h q : Nat} {u : Uw} {v : Nat → Nat} {t : Nat} (ht : t < 2) : ∀ j, j < 7 → adr b h u q v (200 + 7 * t + j) = cirA (u.2.2.2.2.2.1.2.1 t) (u.2.2.2.2.2.1.2.2 t) j := by
  intro j hj
  unfold adr
  rw [if_neg (by omega), if_neg (by omega), if_neg (by omega), if_neg (by omega), if_neg (by omega), if_neg (by omega), if_pos (by omega), show (200 + 7 * t + j - 200) / 7 = t by omega, show (200 + 7 * t + j - 200) % 7 = j by omega]
theorem bs_ok : (∀ t, t < 24 → kd (31 + 7 * t) = 2 ∧ ∀ j, j < 7 → 1 ≤ j → kd (31 + 7 * t + j) = 9 ∧ ln (31 + 7 * t + j) = 8) ∧ (∀ t, t < 2 → kd (200 + 7 * t) = 2 ∧ ∀ j, j < 7 → 1 ≤ j → kd (200 + 7 * t + j) = 9 ∧ ln (200 + 7 * t + j) = 8) := by decide +kernel
theorem bs_ok2 : ∀ i0 ∈ [15, 22, 215, 222], kd i0 = 2 ∧ ∀ j, j < 7 → 1 ≤ j → kd (i0 + j) = 9 ∧ ln (i0 + j) = 8 := by decide +kernel
section
variable {D : va_G} {k : Nat → ClassId} {b h q : Nat} {u : Uw} {v : Nat → Nat} {Ls : Nat} {xs : Nat → Int32} {H : Heap}
theorem refAt {w : Wc} {M : Mm} {L : Ml} {a N : Nat} {f : Nat → Option Nat} {cA : ClassId} (hk : kd a = 11 ∧ w.2.2 11 = cA ∨ kd a = 12 ∧ w.2.2 12 = cA) (hn : ln a = N) (hf : ∀ j, j < N → f j = some (w.1 (rfa a j))) (h : H[w.1 a]? = some (vp_cell cA (N, .inr (.inr (.inr (.inr f)))))) : va_at w.2.1 vwCl (w.1 a, cel w M L a) H := by
  have e : cel w M L a = .inl (cA, N, .inr (.inr (.inr (.inr (fun j => some (w.1 (rfa a j))))))) := by
    unfold cel
    rcases hk with ⟨h1, h2⟩ | ⟨h1, h2⟩ <;> rw [h1, hn, h2] <;> rfl
  rw [e]
  show H[w.1 a]? = some (vp_cell cA _)
  rw [h, vp_cell_q, vp_cell_q]
  exact congrArg some (arrV_cg fun j hj => by rw [hf j hj])
set_option maxHeartbeats 4000000 in
set_option maxRecDepth 100000 in
theorem cellsAt (hP : va_P D vwCl (wiW (k 9) (k 11) (k 12) h u ++ moW (k 8) (k 9) (k 10) q v) H) : va_P D vwCl (wsM (adr b h u q v, D, k) (M0 Ls xs) L0) H := by
  have hMo := pR hP
  have hW := pL hP
  have hAs := pR hW
  have hSe := pR (pL hW)
  have hIm := pR (pL (pL hW))
  have hAc := pR (pL (pL (pL hW)))
  have hDr := pR (pL (pL (pL (pL hW))))
  have hNo := pR (pL (pL (pL (pL (pL hW)))))
  have hTa := pR (pL (pL (pL (pL (pL (pL hW))))))
  have hRo := pR (pL (pL (pL (pL (pL (pL (pL hW)))))))
  have hWi := pL (pL (pL (pL (pL (pL (pL (pL hW)))))))
  have g : ∀ i, i < 246 → va_at D vwCl (adr b h u q v i, cel (adr b h u q v, D, k) (M0 Ls xs) L0 i) H := by
    have cz : ∀ {i0 q' : Nat} {u' : U6}, (kd i0 = 2 ∧ ∀ j, j < 7 → 1 ≤ j → kd (i0 + j) = 9 ∧ ln (i0 + j) = 8) → (∀ j, j < 7 → adr b h u q v (i0 + j) = cirA q' u' j) → va_P D vwCl (cirW (k 9) q' u') H → 15 ≤ i0 → i0 < 223 → ∀ i, i0 ≤ i → i < i0 + 7 → va_at D vwCl (adr b h u q v i, cel (adr b h u q v, D, k) (M0 Ls xs) L0 i) H := fun {i0 q' u'} hb hw hp h15 h22 i h1 h2 => by
      have K := circAt (w := (adr b h u q v, D, k)) (M := M0 Ls xs) (L := L0) hb.1 hb.2 (fun j hj => M0_f (by omega) (by omega) (by omega)) hw hp (i - i0) (by omega)
      rw [show i0 + (i - i0) = i by omega] at K
      exact K
    intro i hi
    by_cases a1 : i < 15
    · rcases (show i = 0 ∨ i = 1 ∨ i = 2 ∨ i = 3 ∨ i = 4 ∨ i = 5 ∨ i = 6 ∨ i = 7 ∨ i = 8 ∨ i = 9 ∨ i = 10 ∨ i = 11 ∨ i = 12 ∨ i = 13 ∨ i = 14 by omega) with rfl | rfl | rfl | rfl | rfl | rfl | rfl | rfl | rfl | rfl | rfl | rfl | rfl | rfl | rfl
      · exact hWi 0 _ rfl
      · exact hRo 0 _ rfl
      · exact refAt (w := (adr b h u q v, D, k)) (M := M0 Ls xs) (L := L0) (a := 2) (Or.inr ⟨by decide +kernel, rfl⟩) (show ln 2 = 8 by decide +kernel) (fun j hj => by
          rcases (show j = 0 ∨ j = 1 ∨ j = 2 ∨ j = 3 ∨ j = 4 ∨ j = 5 ∨ j = 6 ∨ j = 7 by omega) with rfl | rfl | rfl | rfl | rfl | rfl | rfl | rfl <;> rfl) (hRo 1 _ rfl)
      · exact hRo 2 _ rfl
      · exact hRo 3 _ rfl
      · exact hRo 4 _ rfl
      · exact hRo 5 _ rfl
      · exact hRo 6 _ rfl
      · exact hRo 7 _ rfl
      · exact hRo 8 _ rfl
      · exact hRo 9 _ rfl
      · exact hRo 10 _ rfl
      · exact hRo 11 _ rfl
      · exact hTa 0 _ rfl
      · exact hTa 1 _ rfl
    by_cases a2 : i < 22
    · exact cz (bs_ok2 15 (by decide)) adr_15 hNo (by omega) (by omega) i (by omega) (by omega)
    by_cases a3 : i < 29
    · exact cz (bs_ok2 22 (by decide)) adr_22 hDr (by omega) (by omega) i (by omega) (by omega)
    by_cases a4 : i < 31
    · rcases (show i = 29 ∨ i = 30 by omega) with rfl | rfl
      · exact hAc 0 _ rfl
      · refine refAt (w := (adr b h u q v, D, k)) (M := M0 Ls xs) (L := L0) (a := 30) (Or.inl ⟨by decide +kernel, rfl⟩) (show ln 30 = 24 by decide +kernel) (fun j hj => ?_) (hAc 1 _ rfl)
        show fA _ 24 j = some (adr b h u q v (31 + 7 * j))
        have := adr_31 (b := b) (h := h) (q := q) (u := u) (v := v) hj 0 (by omega)
        rw [Nat.add_zero] at this
        rw [this]
        exact if_pos hj
    by_cases a5 : i < 199
    · have ht : (i - 31) / 7 < 24 := by omega
      exact cz (bs_ok.1 ((i - 31) / 7) ht) (adr_31 ht) (csW_P 24 (pR hAc) _ ht) (by omega) (by omega) i (by omega) (by omega)
    by_cases a6 : i < 200
    · rcases (show i = 199 by omega) with rfl
      refine refAt (w := (adr b h u q v, D, k)) (M := M0 Ls xs) (L := L0) (a := 199) (Or.inl ⟨by decide +kernel, rfl⟩) (show ln 199 = 2 by decide +kernel) (fun j hj => ?_) (hIm 0 _ rfl)
      show fA _ 2 j = some (adr b h u q v (200 + 7 * j))
      have := adr_200 (b := b) (h := h) (q := q) (u := u) (v := v) hj 0 (by omega)
      rw [Nat.add_zero] at this
      rw [this]
      exact if_pos hj
    by_cases a7 : i < 214
    · have ht : (i - 200) / 7 < 2 := by omega
      exact cz (bs_ok.2 ((i - 200) / 7) ht) (adr_200 ht) (csW_P 2 (pR hIm) _ ht) (by omega) (by omega) i (by omega) (by omega)
    by_cases a8 : i < 215
    · rcases (show i = 214 by omega) with rfl
      exact hSe 0 _ rfl
    by_cases a9 : i < 222
    · exact cz (bs_ok2 215 (by decide)) adr_215 (pR (pL (pL hSe))) (by omega) (by omega) i (by omega) (by omega)
    by_cases a10 : i < 229
    · exact cz (bs_ok2 222 (by decide)) adr_222 (pR (pL hSe)) (by omega) (by omega) i (by omega) (by omega)
    by_cases a11 : i < 232
    · rcases (show i = 229 ∨ i = 230 ∨ i = 231 by omega) with rfl | rfl | rfl
      · exact (pR hSe) 0 _ rfl
      · exact hAs 0 _ rfl
      · exact hAs 1 _ rfl
    · rcases (show i = 232 ∨ i = 233 ∨ i = 234 ∨ i = 235 ∨ i = 236 ∨ i = 237 ∨ i = 238 ∨ i = 239 ∨ i = 240 ∨ i = 241 ∨ i = 242 ∨ i = 243 ∨ i = 244 ∨ i = 245 by omega) with rfl | rfl | rfl | rfl | rfl | rfl | rfl | rfl | rfl | rfl | rfl | rfl | rfl | rfl
      · exact hMo 0 _ rfl
      · exact hMo 1 _ rfl
      · exact hMo 2 _ rfl
      · exact hMo 3 _ rfl
      · exact hMo 4 _ rfl
      · exact hMo 5 _ rfl
      · exact hMo 6 _ rfl
      · exact hMo 7 _ rfl
      · exact hMo 8 _ rfl
      · exact hMo 9 _ rfl
      · exact hMo 10 _ rfl
      · exact hMo 11 _ rfl
      · exact hMo 12 _ rfl
      · exact hMo 13 _ rfl
  intro i x hx
  have hi : i < 246 := by
    have := (List.getElem?_eq_some_iff.mp hx).1
    unfold wsM at this
    rw [List.length_map, List.length_range] at this
    exact this
  unfold wsM at hx
  rw [List.getElem?_map, List.getElem?_range (show i < nIds from hi)] at hx
  cases hx
  exact g i hi
end
/-- the cells of X stand, in their order, at f off, f (off + 1) .. -/
def aq (X : va_W) (off n : Nat) (f : Nat → Nat) : Prop := X.length = n ∧ ∀ i, i < n → ∃ e, X[i]? = some (f (off + i), e)
theorem aq.nil {off : Nat} {f : Nat → Nat} : aq [] off 0 f := ⟨rfl, fun i h => absurd h (Nat.not_lt_zero i)⟩
theorem aq.cons {a off n : Nat} {e : va_E} {X : va_W} {f : Nat → Nat} (h : f off = a) (hX : aq X (off + 1) n f) : aq ((a, e) :: X) off (n + 1) f := by
  refine ⟨by rw [List.length_cons, hX.1], fun i hi => ?_⟩
  cases i with
  | zero => exact ⟨e, by rw [Nat.add_zero, h]; rfl⟩
  | succ i =>
    obtain ⟨e', h'⟩ := hX.2 i (by omega)
    exact ⟨e', by rw [List.getElem?_cons_succ, h', show off + 1 + i = off + (i + 1) by omega]⟩
theorem aq.app {A B : va_W} {off n m : Nat} {f : Nat → Nat} (hA : aq A off n f) (hB : aq B (off + n) m f) : aq (A ++ B) off (n + m) f := by
  refine ⟨by rw [List.length_append, hA.1, hB.1], fun i hi => ?_⟩
  by_cases h : i < n
  · obtain ⟨e, h'⟩ := hA.2 i h
    exact ⟨e, by rw [List.getElem?_append_left (by rw [hA.1]; exact h)]; exact h'⟩
  · obtain ⟨e, h'⟩ := hB.2 (i - n) (by omega)
    exact ⟨e, by rw [List.getElem?_append_right (by rw [hA.1]; omega), hA.1, h', show off + n + (i - n) = off + i by omega]⟩
theorem aq.cir {c9 : ClassId} {q off : Nat} {u : U6} {f : Nat → Nat} (h : ∀ j, j < 7 → f (off + j) = cirA q u j) : aq (cirW c9 q u) off 7 f :=
  .cons (h 0 (by omega)) (.cons (h 1 (by omega)) (.cons (h 2 (by omega)) (.cons (h 3 (by omega)) (.cons (h 4 (by omega)) (.cons (h 5 (by omega)) (.cons (h 6 (by omega)) .nil))))))
theorem aq.cs {c9 : ClassId} {off : Nat} {ad : Nat → Nat} {us : Nat → U6} {f : Nat → Nat} : ∀ n, (∀ t, t < n → ∀ j, j < 7 → f (off + 7 * t + j) = cirA (ad t) (us t) j) → aq (csW c9 ad us n) off (7 * n) f
  | 0, _ => .nil
  | n + 1, h => (aq.cs n (fun t ht => h t (by omega))).app (.cir (h n (by omega)))
theorem adr_at {c8 c9 c10 c11 c12 : ClassId} {b h q : Nat} {u : Uw} {v : Nat → Nat} : aq (wiW c9 c11 c12 h u ++ moW c8 c9 c10 q v) 0 246 (adr b h u q v) := by
  have hWi : aq [(h, .inr (6, [.ref u.1.1, .ref u.2.1.1, .ref u.2.2.1.1, .ref u.2.2.2.1.1, .ref u.2.2.2.2.1.1, .ref u.2.2.2.2.2.1.1, .ref u.2.2.2.2.2.2.1.1, .ref u.2.2.2.2.2.2.2.1, .int 0, .int 0]))] 0 1 (adr b h u q v) := .cons rfl .nil
  have hRo : aq (roW c9 c12 u.1.1 u.1.2) 1 12 (adr b h u q v) := (.cons rfl (.cons rfl (.cons rfl (.cons rfl (.cons rfl (.cons rfl (.cons rfl (.cons rfl (.cons rfl (.cons rfl (.cons rfl (.cons rfl .nil))))))))))))
  have hTa : aq (taW c9 u.2.1.1 u.2.1.2) 13 2 (adr b h u q v) := (.cons rfl (.cons rfl .nil))
  have hNo : aq (cirW c9 u.2.2.1.1 u.2.2.1.2) 15 7 (adr b h u q v) := .cir adr_15
  have hDr : aq (cirW c9 u.2.2.2.1.1 u.2.2.2.1.2) 22 7 (adr b h u q v) := .cir adr_22
  have hAc : aq (acW c9 c11 u.2.2.2.2.1.1 u.2.2.2.2.1.2) 29 170 (adr b h u q v) := aq.app (n := 2) (.cons rfl (.cons rfl .nil)) (aq.cs 24 (fun t ht => adr_31 ht))
  have hIm : aq (imW c9 c11 u.2.2.2.2.2.1.1 u.2.2.2.2.2.1.2.1 u.2.2.2.2.2.1.2.2 2) 199 15 (adr b h u q v) := aq.app (n := 1) (.cons rfl .nil) (aq.cs 2 (fun t ht => adr_200 ht))
  have hSe : aq (seW c9 u.2.2.2.2.2.2.1.1 u.2.2.2.2.2.2.1.2) 214 16 (adr b h u q v) := aq.app (n := 15) (aq.app (n := 8) (aq.app (n := 1) (.cons rfl .nil) (.cir adr_215)) (.cir adr_222)) (.cons rfl .nil)
  have hAs : aq (asW c9 u.2.2.2.2.2.2.2.1 u.2.2.2.2.2.2.2.2) 230 2 (adr b h u q v) := (.cons rfl (.cons rfl .nil))
  have hMo : aq (moW c8 c9 c10 q v) 232 14 (adr b h u q v) := (.cons rfl (.cons rfl (.cons rfl (.cons rfl (.cons rfl (.cons rfl (.cons rfl (.cons rfl (.cons rfl (.cons rfl (.cons rfl (.cons rfl (.cons rfl (.cons rfl .nil))))))))))))))
  exact ((((((((hWi.app hRo).app hTa).app hNo).app hDr).app hAc).app hIm).app hSe).app hAs).app hMo
