/-! THE CIRCLE AS NUMBERS: C f j: 0 players, 1 murderer, 2 proof, 3 tick, 4 found out, 5 asleep (at 0); 6 kind, 7 look (99: none), 8 slow, 9 how, 10 left, 11 saw (of each) -/
abbrev Ci : Type := Nat → Nat → Nat
def cu (C : Ci) (f j v : Nat) : Ci := fun x y => if x = f then (if y = j then v else C x y) else C x y
theorem cu_ne {C : Ci} {f j v x y : Nat} (h : x ≠ f) : cu C f j v x y = C x y := if_neg h
theorem cu_nj {C : Ci} {f j v y : Nat} (h : y ≠ j) : cu C f j v f y = C f y := by unfold cu; rw [if_pos rfl, if_neg h]
theorem cu_s {C : Ci} {f j v : Nat} : cu C f j v f j = v := by unfold cu; rw [if_pos rfl, if_pos rfl]
theorem cu_at {C : Ci} {f j v y : Nat} : cu C f j v f y = if y = j then v else C f y := by unfold cu; rw [if_pos rfl]
def abv (P s : Nat) : Nat := if s + 1 < P then s + 1 else 0
def blw (P s : Nat) : Nat := if 0 < s then s - 1 else P - 1
def nnF (C : Ci) (p : Nat) : Nat → Nat → Nat
  | 0, _ => 99
  | n + 1, k => if C 9 ((p + k) % C 0 0) = 2 then nnF C p n (k + 1) else (p + k) % C 0 0
def nnd (C : Ci) (p : Nat) : Nat := nnF C p (C 0 0 - 1) 1
def rvu (P p l : Nat) : Nat := if abv P (if l = 99 then p else l) = p then abv P p else abv P (if l = 99 then p else l)
def rvd (P p l : Nat) : Nat := if blw P (if l = 99 then p else l) = p then blw P p else blw P (if l = 99 then p else l)
/-- where a player looks in a tick -/
def nl (C : Ci) (p : Nat) : Nat :=
  if C 9 p = 2 then 99 else if C 5 0 / 2 ^ p % 2 = 1 then 99
  else if C 6 p = 1 then rvu (C 0 0) p (C 7 p)
  else if C 6 p = 2 then C 7 p
  else if C 6 p = 3 then rvd (C 0 0) p (C 7 p)
  else if C 6 p = 4 then nnd C p
  else if C 3 0 % 2 = 0 then nnd C p else 99
def lkK (C : Ci) (k : Nat) : Ci := fun x y => if x = 7 then (if y < k then nl C y else C x y) else C x y
def see1 (C : Ci) (p : Nat) : Ci := if C 2 0 ≤ (if C 11 p < 99 then C 11 p + 1 else 99) then cu (cu C 11 p (if C 11 p < 99 then C 11 p + 1 else 99)) 4 0 1 else cu C 11 p (if C 11 p < 99 then C 11 p + 1 else 99)
def seeK (C : Ci) (v m : Nat) : Nat → Ci
  | 0 => C
  | k + 1 => if k ≠ v ∧ k ≠ m ∧ C 9 k ≠ 2 ∧ C 7 k = m then see1 (seeK C v m k) k else seeK C v m k
def hit (C : Ci) (v : Nat) : Ci := cu (cu C 9 v 1) 10 v (C 8 v + 1)
def wk (C : Ci) : Ci :=
  if C 4 0 = 1 ∨ C 9 (C 1 0) = 2 ∨ C 7 (C 1 0) = 99 ∨ C 9 (C 7 (C 1 0)) ≠ 0 ∨ C 7 (C 7 (C 1 0)) ≠ C 1 0 then C
  else seeK (hit C (C 7 (C 1 0))) (C 7 (C 1 0)) (C 1 0) (C 0 0)
def fdK (C : Ci) (k : Nat) : Ci := fun x y =>
  if y < k ∧ C 9 y = 1 then (if x = 10 then C 10 y - 1 else if x = 9 then (if C 10 y ≤ 1 then 2 else 1) else if x = 7 then (if C 10 y ≤ 1 then 99 else C 7 y) else C x y) else C x y
def tk (C : Ci) : Ci := cu (fdK (wk (lkK C (C 0 0))) (C 0 0)) 3 0 (C 3 0 + 1)
def tkN : Nat → Ci → Ci
  | 0, C => C
  | n + 1, C => tkN n (tk C)
/-- bits of those of whom f holds, counts, sums -/
def btK (f : Nat → Prop) [∀ j, Decidable (f j)] : Nat → Nat
  | 0 => 0
  | k + 1 => if f k then btK f k + 2 ^ k else btK f k
def ctK (f : Nat → Prop) [∀ j, Decidable (f j)] : Nat → Nat
  | 0 => 0
  | k + 1 => if f k then ctK f k + 1 else ctK f k
def smK (f : Nat → Nat) : Nat → Nat
  | 0 => 0
  | k + 1 => smK f k + f k
def bts (C : Ci) (h : Nat) : Nat := btK (fun j => C 9 j = h) (C 0 0)
def ded (C : Ci) : Nat := ctK (fun j => C 9 j = 2) (C 0 0)
def lkr (C : Ci) (s : Nat) : Nat := btK (fun j => C 7 j = s) (C 0 0)
def alS (C : Ci) : Nat := smK (fun j => C 11 j) (C 0 0)
def rlK (C : Ci) (p k : Nat) : Ci := fun x y => if x = 11 ∧ y < k then 0 else cu (cu C 1 0 p) 4 0 0 x y
def rol (C : Ci) (p : Nat) : Ci := rlK C p (C 0 0)
def sit (C : Ci) (p : Nat) : Ci := cu (cu (cu (cu C 9 p 0) 10 p 0) 11 p 0) 7 p (abv (C 0 0) p)
/-- a circle as it should be -/
def wfJ (C : Ci) (j : Nat) : Prop := (1 ≤ C 6 j ∧ C 6 j ≤ 5) ∧ (C 7 j = 99 ∨ (C 7 j < C 0 0 ∧ C 7 j ≠ j)) ∧ (1 ≤ C 8 j ∧ C 8 j ≤ 9) ∧ C 9 j ≤ 2 ∧ C 10 j ≤ 10 ∧ (C 9 j = 1 → 1 ≤ C 10 j) ∧ (C 9 j ≠ 1 → C 10 j = 0) ∧ C 11 j ≤ 99
def wf (C : Ci) : Prop := (3 ≤ C 0 0 ∧ C 0 0 ≤ 8) ∧ C 1 0 < C 0 0 ∧ (1 ≤ C 2 0 ∧ C 2 0 ≤ 9) ∧ C 4 0 ≤ 1 ∧ C 5 0 < 256 ∧ ∀ j, j < C 0 0 → wfJ C j
theorem abv_lt {P s : Nat} (hP : 3 ≤ P) : abv P s < P := by unfold abv; split <;> omega
theorem blw_lt {P s : Nat} (hP : 3 ≤ P) (hs : s < P) : blw P s < P := by unfold blw; split <;> omega
theorem abv_ne {P s : Nat} (hP : 3 ≤ P) (hs : s < P) : abv P s ≠ s := by unfold abv; split <;> omega
theorem blw_ne {P s : Nat} (hP : 3 ≤ P) (hs : s < P) : blw P s ≠ s := by unfold blw; split <;> omega
theorem rvu_ok {P p l : Nat} (hP : 3 ≤ P) (hp : p < P) : rvu P p l < P ∧ rvu P p l ≠ p := by
  unfold rvu
  generalize (if l = 99 then p else l) = q
  split
  · exact ⟨abv_lt hP, abv_ne hP hp⟩
  · rename_i h; exact ⟨abv_lt hP, h⟩
theorem rvd_ok {P p l : Nat} (hP : 3 ≤ P) (hp : p < P) (hl : l = 99 ∨ l < P) : rvd P p l < P ∧ rvd P p l ≠ p := by
  have h0 : (if l = 99 then p else l) < P := by split <;> omega
  unfold rvd
  generalize (if l = 99 then p else l) = q at h0
  split
  · exact ⟨blw_lt hP hp, blw_ne hP hp⟩
  · rename_i h; exact ⟨blw_lt hP h0, h⟩
theorem nnF_ok {C : Ci} {p : Nat} (hP : 3 ≤ C 0 0) (hp : p < C 0 0) : ∀ n k, 1 ≤ k → k + n ≤ C 0 0 → nnF C p n k = 99 ∨ (nnF C p n k < C 0 0 ∧ nnF C p n k ≠ p)
  | 0, _, _, _ => Or.inl rfl
  | n + 1, k, h1, h2 => by
    unfold nnF
    split
    · exact nnF_ok hP hp n (k + 1) (by omega) (by omega)
    · right
      refine ⟨Nat.mod_lt _ (by omega), fun h => ?_⟩
      rcases Nat.lt_or_ge (p + k) (C 0 0) with q | q
      · rw [Nat.mod_eq_of_lt q] at h; omega
      · rw [Nat.mod_eq_sub_mod q, Nat.mod_eq_of_lt (by omega)] at h; omega
theorem nl_ok {C : Ci} (h : wf C) {p : Nat} (hp : p < C 0 0) : nl C p = 99 ∨ (nl C p < C 0 0 ∧ nl C p ≠ p) := by
  obtain ⟨⟨hP, hP8⟩, h1, h2, h4, h5, hj⟩ := h
  have hn := nnF_ok hP hp (C 0 0 - 1) 1 (Nat.le_refl _) (by omega)
  have hl := (hj p hp).2.1
  have hl' : C 7 p = 99 ∨ C 7 p < C 0 0 := by rcases hl with h | h; exact Or.inl h; exact Or.inr h.1
  unfold nl
  split
  · exact Or.inl rfl
  · split
    · exact Or.inl rfl
    · split
      · exact Or.inr (rvu_ok hP hp)
      · split
        · exact hl
        · split
          · exact Or.inr (rvd_ok hP hp hl')
          · split
            · exact hn
            · split
              · exact hn
              · exact Or.inl rfl
theorem lkK_7 {C : Ci} {k y : Nat} : lkK C k 7 y = if y < k then nl C y else C 7 y := rfl
theorem lkK_ne {C : Ci} {k x y : Nat} (h : x ≠ 7) : lkK C k x y = C x y := if_neg h
theorem wf_lkK {C : Ci} (h : wf C) (k : Nat) : wf (lkK C k) := by
  obtain ⟨hP, h1, h2, h4, h5, hj⟩ := id h
  refine ⟨hP, h1, h2, h4, h5, fun j hj' => ?_⟩
  have hjj := hj j hj'
  refine ⟨hjj.1, ?_, hjj.2.2⟩
  show (if j < k then nl C j else C 7 j) = 99 ∨ _
  have e : lkK C k 0 0 = C 0 0 := rfl
  rw [e, lkK_7]
  split
  · exact nl_ok h hj'
  · exact hjj.2.1
theorem wf_see1 {C : Ci} (h : wf C) {p : Nat} (hp : p < C 0 0) : wf (see1 C p) := by
  obtain ⟨hP, h1, h2, h4, h5, hj⟩ := h
  have hs : (if C 11 p < 99 then C 11 p + 1 else 99) ≤ 99 := by split <;> omega
  generalize hv : (if C 11 p < 99 then C 11 p + 1 else 99) = v at hs
  have key : wf (cu C 11 p v) := by
    refine ⟨hP, h1, h2, h4, h5, fun j hj' => ?_⟩
    obtain ⟨a1, a2, a3, a4, a5, a6, a7, a8⟩ := hj j hj'
    refine ⟨a1, a2, a3, a4, a5, a6, a7, ?_⟩
    rw [cu_at]
    split
    · exact hs
    · exact a8
  unfold see1
  rw [hv]
  split
  · obtain ⟨b1, b2, b3, b4, b5, b6⟩ := key
    exact ⟨b1, b2, b3, Nat.le_refl _, b5, b6⟩
  · exact key
theorem see1_0 {C : Ci} {p x y : Nat} (h1 : x ≠ 11) (h2 : x ≠ 4) : see1 C p x y = C x y := by
  unfold see1
  generalize (if C 11 p < 99 then C 11 p + 1 else 99) = q
  split
  · rw [cu_ne h2, cu_ne h1]
  · rw [cu_ne h1]
theorem seeK_0 {C : Ci} {v m x y : Nat} (h1 : x ≠ 11) (h2 : x ≠ 4) : ∀ k, seeK C v m k x y = C x y
  | 0 => rfl
  | k + 1 => by
    unfold seeK
    split
    · rw [see1_0 h1 h2, seeK_0 h1 h2 k]
    · exact seeK_0 h1 h2 k
theorem wf_seeK {C : Ci} (h : wf C) (v m : Nat) : ∀ k, k ≤ C 0 0 → wf (seeK C v m k)
  | 0, _ => h
  | k + 1, hk => by
    have ih := wf_seeK h v m k (by omega)
    unfold seeK
    split
    · exact wf_see1 ih (by rw [seeK_0 (by decide) (by decide)]; omega)
    · exact ih
theorem wf_hit {C : Ci} (h : wf C) {v : Nat} (hv : v < C 0 0) : wf (hit C v) := by
  obtain ⟨hP, h1, h2, h4, h5, hj⟩ := h
  refine ⟨hP, h1, h2, h4, h5, fun j hj' => ?_⟩
  obtain ⟨a1, a2, a3, a4, a5, a6, a7, a8⟩ := hj j hj'
  have hsv := (hj v hv).2.2.1
  have e9 : hit C v 9 j = if j = v then 1 else C 9 j := by unfold hit; rw [cu_ne (by decide), cu_at]
  have e10 : hit C v 10 j = if j = v then C 8 v + 1 else C 10 j := by unfold hit; rw [cu_at, cu_ne (by decide)]
  refine ⟨a1, a2, a3, ?_, ?_, ?_, ?_, a8⟩
  · rw [e9]; split <;> omega
  · rw [e10]; split <;> omega
  · rw [e9, e10]; split <;> omega
  · rw [e9, e10]; split
    · intro q; exact absurd rfl q
    · exact a7
theorem wf_wk {C : Ci} (h : wf C) : wf (wk C) := by
  unfold wk
  split
  · exact h
  · rename_i q
    have hm := h.2.1
    have hv : C 7 (C 1 0) < C 0 0 := by
      rcases (h.2.2.2.2.2 _ hm).2.1 with z | z
      · exact absurd (Or.inr (Or.inr (Or.inl z))) q
      · exact z.1
    exact wf_seeK (wf_hit h hv) _ _ _ (Nat.le_refl _)
theorem wk_0 {C : Ci} {x y : Nat} (h1 : x ≠ 11) (h2 : x ≠ 4) (h3 : x ≠ 9) (h4 : x ≠ 10) : wk C x y = C x y := by
  unfold wk
  split
  · rfl
  · rw [seeK_0 h1 h2]
    unfold hit
    rw [cu_ne h4, cu_ne h3]
theorem fdK_ne {C : Ci} {k x y : Nat} (h1 : x ≠ 10) (h2 : x ≠ 9) (h3 : x ≠ 7) : fdK C k x y = C x y := by
  unfold fdK
  rw [if_neg h1, if_neg h2, if_neg h3]
  split <;> rfl
theorem wf_fdK {C : Ci} (h : wf C) (k : Nat) : wf (fdK C k) := by
  obtain ⟨hP, h1, h2, h4, h5, hj⟩ := h
  have e : ∀ x, x < 6 → fdK C k x 0 = C x 0 := fun x hx => fdK_ne (by omega) (by omega) (by omega)
  unfold wf
  rw [e 0 (by decide), e 1 (by decide), e 2 (by decide), e 4 (by decide), e 5 (by decide)]
  refine ⟨hP, h1, h2, h4, h5, fun j hj' => ?_⟩
  obtain ⟨a1, a2, a3, a4, a5, a6, a7, a8⟩ := hj j hj'
  unfold wfJ
  rw [e 0 (by decide), fdK_ne (x := 6) (by decide) (by decide) (by decide), fdK_ne (x := 8) (by decide) (by decide) (by decide), fdK_ne (x := 11) (by decide) (by decide) (by decide)]
  have e7 : fdK C k 7 j = if j < k ∧ C 9 j = 1 then (if C 10 j ≤ 1 then 99 else C 7 j) else C 7 j := rfl
  have e9 : fdK C k 9 j = if j < k ∧ C 9 j = 1 then (if C 10 j ≤ 1 then 2 else 1) else C 9 j := rfl
  have e10 : fdK C k 10 j = if j < k ∧ C 9 j = 1 then C 10 j - 1 else C 10 j := rfl
  rw [e7, e9, e10]
  by_cases hq : j < k ∧ C 9 j = 1
  · rw [if_pos hq, if_pos hq, if_pos hq]
    have := a6 hq.2
    by_cases hz : C 10 j ≤ 1
    · rw [if_pos hz, if_pos hz]
      exact ⟨a1, Or.inl rfl, a3, by omega, by omega, by omega, by omega, a8⟩
    · rw [if_neg hz, if_neg hz]
      exact ⟨a1, a2, a3, by omega, by omega, by omega, by omega, a8⟩
  · rw [if_neg hq, if_neg hq, if_neg hq]
    exact ⟨a1, a2, a3, a4, a5, a6, a7, a8⟩
theorem wf_3 {C : Ci} (h : wf C) (v : Nat) : wf (cu C 3 0 v) := h
theorem wf_tk {C : Ci} (h : wf C) : wf (tk C) := wf_3 (wf_fdK (wf_wk (wf_lkK h _)) _) _
theorem tk_0 {C : Ci} : tk C 0 0 = C 0 0 := by
  unfold tk
  rw [cu_ne (by decide), fdK_ne (by decide) (by decide) (by decide), wk_0 (by decide) (by decide) (by decide) (by decide)]
  rfl
theorem tk_3 {C : Ci} : tk C 3 0 = C 3 0 + 1 := cu_s
theorem wf_tkN : ∀ n {C : Ci}, wf C → wf (tkN n C)
  | 0, _, h => h
  | n + 1, _, h => wf_tkN n (wf_tk h)
theorem tkN_0 : ∀ n {C : Ci}, tkN n C 0 0 = C 0 0
  | 0, _ => rfl
  | n + 1, C => by rw [tkN, tkN_0 n, tk_0]
theorem tkN_3 : ∀ n {C : Ci}, tkN n C 3 0 = C 3 0 + n
  | 0, _ => rfl
  | n + 1, C => by rw [tkN, tkN_3 n, tk_3]; omega
theorem tkN_s : ∀ n {C : Ci}, tkN (n + 1) C = tk (tkN n C)
  | 0, _ => rfl
  | n + 1, C => by rw [tkN, tkN_s n]; rfl
theorem wf_rol {C : Ci} (h : wf C) {p : Nat} (hp : p < C 0 0) : wf (rol C p) := by
  obtain ⟨hP, h1, h2, h4, h5, hj⟩ := h
  refine ⟨hP, hp, h2, Nat.zero_le _, h5, fun j hj' => ?_⟩
  obtain ⟨a1, a2, a3, a4, a5, a6, a7, a8⟩ := hj j hj'
  refine ⟨a1, a2, a3, a4, a5, a6, a7, ?_⟩
  show (if _ then 0 else _) ≤ 99
  split
  · exact Nat.zero_le _
  · exact a8
theorem wf_sit {C : Ci} (h : wf C) {p : Nat} (hp : p < C 0 0) : wf (sit C p) := by
  obtain ⟨hP, h1, h2, h4, h5, hj⟩ := h
  refine ⟨hP, h1, h2, h4, h5, fun j hj' => ?_⟩
  obtain ⟨a1, a2, a3, a4, a5, a6, a7, a8⟩ := hj j hj'
  have e7 : sit C p 7 j = if j = p then abv (C 0 0) p else C 7 j := by unfold sit; rw [cu_at, cu_ne (by decide), cu_ne (by decide), cu_ne (by decide)]
  have e9 : sit C p 9 j = if j = p then 0 else C 9 j := by unfold sit; rw [cu_ne (by decide), cu_ne (by decide), cu_ne (by decide), cu_at]
  have e10 : sit C p 10 j = if j = p then 0 else C 10 j := by unfold sit; rw [cu_ne (by decide), cu_ne (by decide), cu_at, cu_ne (by decide)]
  have e11 : sit C p 11 j = if j = p then 0 else C 11 j := by unfold sit; rw [cu_ne (by decide), cu_at, cu_ne (by decide), cu_ne (by decide)]
  refine ⟨a1, ?_, a3, ?_, ?_, ?_, ?_, ?_⟩
  · rw [e7]; split
    · rename_i q; subst q; exact Or.inr ⟨abv_lt hP.1, abv_ne hP.1 hp⟩
    · exact a2
  · rw [e9]; split <;> omega
  · rw [e10]; split <;> omega
  · rw [e9, e10]; split
    · intro q; cases q
    · exact a6
  · rw [e9, e10]; split
    · intro _; rfl
    · exact a7
  · rw [e11]; split <;> omega
