/-! the first state, and the memory behind both constructors -/
noncomputable def M0 (Ls : Nat) (xs : Nat → Int32) : Mm := fun a j => if a = 12 then lnF 8 j else if a = 233 then lnF 8 j else if a = 1000 then (if j = 0 then nI Ls else xs (j - 1)) else 0
def L0 : Ml := fun _ => 0
def S0 : Sx := (fun _ => none, (0, fun _ => 0), 0, 0, fun _ _ => 0, (0, fun _ => fun _ _ => 0), fun _ => none, (0, fun _ => 0))
theorem M0_z {Ls : Nat} {xs : Nat → Int32} {a j : Nat} (h1 : a ≠ 12) (h2 : a ≠ 233) (h3 : a ≠ 1000) : M0 Ls xs a j = nI 0 := by
  unfold M0
  rw [if_neg h1, if_neg h2, if_neg h3, zn0]
theorem M0_l {Ls : Nat} {xs : Nat → Int32} {j : Nat} (h : j < 8) : M0 Ls xs 12 j = c_m1 ∧ M0 Ls xs 233 j = c_m1 := ⟨if_pos h, if_pos h⟩
theorem ok0 : okS S0 := ⟨fun r q h => (by cases h), ⟨Nat.zero_le _, fun i hi => absurd hi (Nat.not_lt_zero i)⟩, Nat.zero_le _, Nat.zero_le _, Or.inl ⟨fun _ _ => rfl, rfl, fun _ => rfl⟩, ⟨Nat.zero_le _, fun i hi => absurd hi (Nat.not_lt_zero i)⟩, fun k C h => (by cases h), Nat.zero_le _⟩
theorem RC0 {Ls : Nat} {xs : Nat → Int32} : RC (M0 Ls xs) S0 := by
  refine ⟨fun r hr => (M0_l hr).1, ⟨M0_z (by decide) (by decide) (by decide), fun i hi => absurd hi (Nat.not_lt_zero i)⟩, M0_z (by decide) (by decide) (by decide), M0_z (by decide) (by decide) (by decide), ⟨fun k hk => M0_z (by decide) (by decide) (by decide), fun f h1 h2 j hj => absurd hj (Nat.not_lt_zero j)⟩, ⟨0, by decide, M0_z (by decide) (by decide) (by decide), M0_z (by decide) (by decide) (by decide), fun i hi => absurd hi (Nat.not_lt_zero i)⟩, fun k hk => ?_, ⟨M0_z (by decide) (by decide) (by decide), fun i hi => absurd hi (Nat.not_lt_zero i)⟩⟩
  show M0 Ls xs (200 + 7 * k) 0 = nI 0
  exact M0_z (by omega) (by omega) (by omega)
theorem RR0 {Ls : Nat} {xs : Nat → Int32} : RR (M0 Ls xs) S0 := by
  refine ⟨fun r hr => (M0_l hr).2, ⟨M0_z (by decide) (by decide) (by decide), fun i hi => absurd hi (Nat.not_lt_zero i)⟩, M0_z (by decide) (by decide) (by decide), M0_z (by decide) (by decide) (by decide), ⟨⟨fun k hk => M0_z (by decide) (by decide) (by decide), fun f h1 h2 j hj => absurd hj (Nat.not_lt_zero j)⟩, M0_z (by decide) (by decide) (by decide)⟩, ⟨M0_z (by decide) (by decide) (by decide), fun i hi => absurd hi (Nat.not_lt_zero i)⟩, fun k hk => ?_, ⟨M0_z (by decide) (by decide) (by decide), fun i hi => absurd hi (Nat.not_lt_zero i)⟩⟩
  show M0 Ls xs 241 k = nI 0
  exact M0_z (by decide) (by decide) (by decide)
theorem M0_s {Ls : Nat} {xs : Nat → Int32} : M0 Ls xs 1000 0 = nI Ls ∧ ∀ j, j < Ls → M0 Ls xs 1000 (j + 1) = xs j := ⟨rfl, fun _ _ => rfl⟩
