theorem rf_b6 (k : pt_St → Int32 → Option (Int32 × pt_St)) (a1 : Int32) : ∀ (m i n : Nat) (τ : pt_St), i + m = 6 → m < n → ∃ τ', lp_X10_begin_47 k a1 n τ (nI i) = k τ' 6 ∧ (∀ c, c < 8 ∨ 13 < c → τ' c = τ c) ∧ (∀ j, i ≤ j → j < 6 → τ' 8 j = 0 ∧ τ' 9 j = -1 ∧ τ' 10 j = 0 ∧ τ' 11 j = 0 ∧ τ' 12 j = 0 ∧ τ' 13 j = 0) ∧ (∀ c j, j < i ∨ 6 ≤ j → τ' c j = τ c j) := by
  intro m
  induction m with
  | zero =>
    intro i n σ hi hn
    obtain ⟨n, rfl⟩ : ∃ z, n = z + 1 := ⟨n - 1, by omega⟩
    have q : (nI i).toInt = (i : Int) := i_nI (by omega)
    have q2 : nI i = 6 := by rw [i_eq, q, i_6]; omega
    refine ⟨σ, ?_, fun c _ => rfl, fun j h1 h2 => by omega, fun c j _ => rfl⟩
    rw [lp_X10_begin_47]
    simp (disch := omega) only [pt_in, pt_iw, pt_b2, pt_b1, pt_do, ↓reduceIte, if_pos, if_neg, pt_pk, pt_row, upd_at, Nat.reduceEqDiff, ↓reduceIte, Int32.lt_iff_toInt_lt, Int32.le_iff_toInt_le, i_eq, i_cl, i_m4, i_m3, i_m2, i_m1, i_0, i_1, i_2, i_3, i_4, i_5, i_6, i_8, i_10, i_16, i_31, i_32, i_39, i_40, i_64, i_160, i_200, i_240, i_255, i_400, q]
    rw [q2]
  | succ m ih =>
    intro i n σ hi hn
    obtain ⟨n, rfl⟩ : ∃ z, n = z + 1 := ⟨n - 1, by omega⟩
    have q : (nI i).toInt = (i : Int) := i_nI (by omega)
    obtain ⟨σ', h1, h2, h3, h4⟩ := ih (i + 1) n (pt_put (pt_put (pt_put (pt_put (pt_put (pt_put σ 8 i 0) 9 i (-1)) 10 i 0) 11 i 0) 12 i 0) 13 i 0) (by omega) (by omega)
    refine ⟨σ', ?_, fun c hc => by rw [h2 c hc]; simp (disch := omega) only [pt_ne], fun j hj1 hj2 => ?_, fun c j hj => ?_⟩
    · rw [lp_X10_begin_47]
      have q3 : nI i + 1 = nI (i + 1) := nI_1 i
      have q4 : (nI i).toInt.toNat = i := by omega
      simp (disch := omega) only [pt_in, pt_b2, pt_b1, pt_do, ↓reduceIte, if_pos, if_neg, Int32.lt_iff_toInt_lt, Int32.le_iff_toInt_le, i_cl, i_0, i_6, i_nar0, q, q4, q3]
      exact h1
    · by_cases hj : j = i
      · subst hj
        rw [h4 8 j (by omega), h4 9 j (by omega), h4 10 j (by omega), h4 11 j (by omega), h4 12 j (by omega), h4 13 j (by omega)]
        simp (disch := omega) only [pt_ne, pt_eq]
        exact ⟨trivial, trivial, trivial, trivial, trivial, trivial⟩
      · exact h3 j (by omega) hj2
    · rw [h4 c j (by omega), pt_njk (by omega), pt_njk (by omega), pt_njk (by omega), pt_njk (by omega), pt_njk (by omega), pt_njk (by omega)]
