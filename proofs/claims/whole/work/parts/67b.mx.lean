/-- the greatest, and where it is first -/
def mx_ (b : Nat) (g : Nat → Nat) : Nat → Nat × Nat
  | 0 => (b, 0)
  | j + 1 => if (mx_ b g j).1 < g (j + 1) then (g (j + 1), j + 1) else mx_ b g j
theorem mx_at (b : Nat) (g : Nat → Nat) : ∀ j, (mx_ b g j).2 ≤ j ∧ b ≤ (mx_ b g j).1 ∧ ((mx_ b g j = (b, 0)) ∨ (1 ≤ (mx_ b g j).2 ∧ g (mx_ b g j).2 = (mx_ b g j).1 ∧ b < (mx_ b g j).1))
  | 0 => ⟨Nat.le_refl 0, Nat.le_refl b, Or.inl rfl⟩
  | j + 1 => by
    obtain ⟨h1, h2, h3⟩ := mx_at b g j
    rw [mx_]
    split
    · next c => exact ⟨Nat.le_refl _, by show b ≤ g (j + 1); omega, Or.inr ⟨by show 1 ≤ j + 1; omega, rfl, by show b < g (j + 1); omega⟩⟩
    · exact ⟨by omega, h2, h3⟩
theorem mx_02 (g : Nat → Nat) : ∀ j, ((mx_ 0 g j).1 ≤ 2 → mx_ 2 g j = (2, 0)) ∧ (3 ≤ (mx_ 0 g j).1 → mx_ 2 g j = mx_ 0 g j)
  | 0 => ⟨fun _ => rfl, fun h => absurd h (by show ¬ 3 ≤ 0; omega)⟩
  | j + 1 => by
    obtain ⟨h1, h2⟩ := mx_02 g j
    by_cases c : (mx_ 0 g j).1 ≤ 2
    · have h1 := h1 c
      rw [mx_, mx_, h1]
      by_cases c2 : (mx_ 0 g j).1 < g (j + 1)
      · rw [if_pos c2]
        by_cases c3 : 2 < g (j + 1)
        · rw [if_pos c3]
          exact ⟨fun h => absurd h (by show ¬ g (j + 1) ≤ 2; omega), fun _ => rfl⟩
        · rw [if_neg c3]
          exact ⟨fun _ => rfl, fun h => absurd h (by show ¬ 3 ≤ g (j + 1); omega)⟩
      · rw [if_neg c2, if_neg (by show ¬ 2 < g (j + 1); omega)]
        exact ⟨fun _ => rfl, fun h => absurd h (by omega)⟩
    · have h2 := h2 (by omega)
      rw [mx_, mx_, h2]
      by_cases c2 : (mx_ 0 g j).1 < g (j + 1)
      · rw [if_pos c2]
        exact ⟨fun h => absurd h (by show ¬ g (j + 1) ≤ 2; omega), fun _ => rfl⟩
      · rw [if_neg c2]
        exact ⟨fun h => absurd h (by omega), fun _ => rfl⟩
theorem mx_stay (b : Nat) (g : Nat → Nat) (M : Nat) (hg : ∀ d, g d ≤ M) (j : Nat) (h : M ≤ (mx_ b g j).1) : ∀ F, j ≤ F → mx_ b g F = mx_ b g j := by
  intro F hF
  induction F with
  | zero => rw [show j = 0 by omega]
  | succ F ih =>
    by_cases c : j = F + 1
    · rw [c]
    · have := ih (by omega)
      rw [mx_, this, if_neg (by have := hg (F + 1); omega)]
