theorem rf_b40 (k : pt_St → Int32 → Option (Int32 × pt_St)) (a1 : Int32) : ∀ (m i n : Nat) (τ : pt_St), i + m = 40 → m < n → ∃ τ', lp_X10_begin_103 k a1 n τ (nI i) = k τ' 40 ∧ (∀ c, c ≠ 14 → c ≠ 16 → τ' c = τ c) ∧ (∀ j, τ' 14 j = if i ≤ j ∧ j < 40 then 0 else τ 14 j) ∧ (∀ j, τ' 16 j = if i ≤ j ∧ j < 40 then 0 else τ 16 j) := by
  intro m
  induction m with
  | zero =>
    intro i n σ hi hn
    obtain ⟨n, rfl⟩ : ∃ z, n = z + 1 := ⟨n - 1, by omega⟩
    have q : (nI i).toInt = (i : Int) := i_nI (by omega)
    have q2 : nI i = 40 := by rw [i_eq, q, i_40]; omega
    refine ⟨σ, ?_, fun c _ _ => rfl, fun j => ?_, fun j => ?_⟩
    · rw [lp_X10_begin_103]
      simp (disch := omega) only [pt_in, pt_iw, pt_b2, pt_b1, pt_do, ↓reduceIte, if_pos, if_neg, pt_pk, pt_row, upd_at, Nat.reduceEqDiff, ↓reduceIte, Int32.lt_iff_toInt_lt, Int32.le_iff_toInt_le, i_eq, i_cl, i_m4, i_m3, i_m2, i_m1, i_0, i_1, i_2, i_3, i_4, i_5, i_6, i_8, i_10, i_16, i_31, i_32, i_39, i_40, i_64, i_160, i_200, i_240, i_255, i_400, q]
      rw [q2]
    · rw [if_neg (by omega)]
    · rw [if_neg (by omega)]
  | succ m ih =>
    intro i n σ hi hn
    obtain ⟨n, rfl⟩ : ∃ z, n = z + 1 := ⟨n - 1, by omega⟩
    have q : (nI i).toInt = (i : Int) := i_nI (by omega)
    obtain ⟨σ', h1, h2, h3, h4⟩ := ih (i + 1) n (pt_put (pt_put σ 14 i 0) 16 i 0) (by omega) (by omega)
    refine ⟨σ', ?_, fun c hc hc2 => by rw [h2 c hc hc2, pt_ne hc2, pt_ne hc], fun j => ?_, fun j => ?_⟩
    · rw [lp_X10_begin_103]
      have q3 : nI i + 1 = nI (i + 1) := nI_1 i
      have q4 : (nI i).toInt.toNat = i := by omega
      simp (disch := omega) only [pt_in, pt_b2, pt_b1, pt_do, ↓reduceIte, if_pos, if_neg, Int32.lt_iff_toInt_lt, Int32.le_iff_toInt_le, i_cl, i_0, i_40, i_nar0, q, q4, q3]
      exact h1
    · rw [h3 j, pt_ne (by omega)]
      by_cases hj : j = i
      · subst hj
        rw [if_neg (by omega), if_pos (by omega), pt_eq]
      · rw [pt_nj hj]
        by_cases hj2 : i ≤ j ∧ j < 40
        · rw [if_pos hj2, if_pos (by omega)]
        · rw [if_neg hj2, if_neg (by omega)]
    · rw [h4 j]
      by_cases hj : j = i
      · subst hj
        rw [if_neg (by omega), if_pos (by omega), pt_eq]
      · rw [pt_nj hj, pt_ne (by omega)]
        by_cases hj2 : i ≤ j ∧ j < 40
        · rw [if_pos hj2, if_pos (by omega)]
        · rw [if_neg hj2, if_neg (by omega)]
