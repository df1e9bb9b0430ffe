/-- what class and reference agree on of those waiting: m of them, by numbers q, with lengths L -/
def gb_H (σ τ : pt_St) (m : Nat) (q : Nat → Nat) (L : Nat → Nat) : Prop :=
  m ≤ 6 ∧ σ 6 2 = τ 0 31 ∧ σ 6 1 = nI m ∧ τ 0 33 = nI m ∧ (∀ i, i < m → q i < 6 ∧ σ 23 i = nI (q i) ∧ τ 17 i = nI (q i) ∧ τ 8 (q i) = 1 ∧ σ (9 + q i) 4 = nI (L (q i)) ∧ L (q i) ≤ 32 ∧ f_X10_lengthOf τ (τ 9 (q i)) = some (nI (L (q i)), τ)) ∧ (∀ i j, i < m → j < m → q i = q j → i = j)
/-- what it comes to -/
def gb_Q (σ τ σ' τ' : pt_St) (m : Nat) (q : Nat → Nat) (L : Nat → Nat) (m' : Nat) (G : Nat → Bool) : Prop :=
  (∀ c, c ≠ 6 → c ≠ 23 → (c < 9 ∨ 14 < c) → σ' c = σ c) ∧ (∀ u j, u < 6 → j ≠ 1 → j ≠ 3 → σ' (9 + u) j = σ (9 + u) j) ∧ (∀ k, k ≠ 0 → k ≠ 8 → k ≠ 10 → k ≠ 17 → τ' k = τ k) ∧ (∀ j, j ≠ 31 → j ≠ 33 → τ' 0 j = τ 0 j) ∧
  (∀ u, u < 6 → G u = true → τ 8 u = 1 ∧ τ' 8 u = 2 ∧ τ' 10 u = 0 ∧ σ' (9 + u) 1 = 2 ∧ σ' (9 + u) 3 = 0) ∧ (∀ u, u < 6 → G u = false → τ' 8 u = τ 8 u ∧ τ' 10 u = τ 10 u ∧ σ' (9 + u) 1 = σ (9 + u) 1 ∧ σ' (9 + u) 3 = σ (9 + u) 3) ∧
  m' ≤ m ∧ σ' 6 1 = nI m' ∧ τ' 0 33 = nI m' ∧ σ' 6 2 = τ' 0 31 ∧ (∀ i, i < m' → σ' 23 i = nI (q (i + (m - m'))) ∧ τ' 17 i = nI (q (i + (m - m')))) ∧ (∀ i, i < m - m' → G (q i) = true) ∧ (∀ i, m - m' ≤ i → i < m → G (q i) = false) ∧ (∀ u, G u = true → ∃ i, i < m - m' ∧ q i = u) ∧ (0 < m' → (τ' 0 31).toInt < (L (q (m - m')) : Int)) ∧ 0 ≤ (τ' 0 31).toInt ∧ (τ' 0 31).toInt ≤ (τ 0 31).toInt
theorem gb_nil {σ τ : pt_St} {m : Nat} {q L : Nat → Nat} (h : gb_H σ τ m q L) (h0 : 0 ≤ (τ 0 31).toInt) (hg : 0 < m → (τ 0 31).toInt < (L (q 0) : Int)) : gb_Q σ τ σ τ m q L m (fun _ => false) := by
  obtain ⟨h1, h2, h3, h4, h5, h6⟩ := h
  refine ⟨fun _ _ _ _ => rfl, fun _ _ _ _ _ => rfl, fun _ _ _ _ _ => rfl, fun _ _ _ => rfl, fun u _ hu => absurd hu (by simp), fun _ _ _ => ⟨rfl, rfl, rfl, rfl⟩, Nat.le_refl m, h3, h4, h2, fun i hi => ?_, fun i hi => absurd hi (by omega), fun _ _ _ => rfl, fun u hu => absurd hu (by simp), fun hm => ?_, h0, Int.le_refl _⟩
  · rw [show i + (m - m) = i by omega]
    exact ⟨(h5 i hi).2.1, (h5 i hi).2.2.1⟩
  · rw [show m - m = 0 by omega]; exact hg hm
