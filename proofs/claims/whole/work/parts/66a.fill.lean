theorem pt_njk {σ : pt_St} {k j : Nat} {v : Int32} {k' j' : Nat} (h : j' ≠ j) : pt_put σ k j v k' j' = σ k' j' := by
  by_cases hk : k' = k
  · subst hk; exact pt_nj h
  · rw [pt_ne hk]
theorem cl_fail (k : pt_St → Int32 → Option pt_St) : ∀ (m i n : Nat) (σ : pt_St), i + m = 40 → m < n → ∃ σ', lp_X0_renew_2 k n σ (nI i) = k σ' 40 ∧ (∀ c, c ≠ 25 → σ' c = σ c) ∧ (∀ j, σ' 25 j = if i ≤ j ∧ j < 40 then 0 else σ 25 j) := by
  intro m
  induction m with
  | zero =>
    intro i n σ hi hn
    obtain ⟨n, rfl⟩ : ∃ z, n = z + 1 := ⟨n - 1, by omega⟩
    have q : (nI i).toInt = (i : Int) := i_nI (by omega)
    have q2 : nI i = 40 := by rw [i_eq, q, i_40]; omega
    refine ⟨σ, ?_, fun c _ => rfl, fun j => ?_⟩
    · rw [lp_X0_renew_2]
      simp (disch := omega) only [pt_in, pt_iw, pt_b2, pt_b1, pt_do, ↓reduceIte, if_pos, if_neg, pt_pk, pt_row, upd_at, Nat.reduceEqDiff, ↓reduceIte, Int32.lt_iff_toInt_lt, Int32.le_iff_toInt_le, i_eq, i_cl, i_m4, i_m3, i_m2, i_m1, i_0, i_1, i_2, i_3, i_4, i_5, i_6, i_8, i_10, i_16, i_31, i_32, i_39, i_40, i_64, i_160, i_200, i_240, i_255, i_400, q]
      rw [q2]
    · rw [if_neg (by omega)]
  | succ m ih =>
    intro i n σ hi hn
    obtain ⟨n, rfl⟩ : ∃ z, n = z + 1 := ⟨n - 1, by omega⟩
    have q : (nI i).toInt = (i : Int) := i_nI (by omega)
    obtain ⟨σ', h1, h2, h3⟩ := ih (i + 1) n (pt_put σ 25 i 0) (by omega) (by omega)
    refine ⟨σ', ?_, fun c hc => by rw [h2 c hc, pt_ne hc], fun j => ?_⟩
    · rw [lp_X0_renew_2]
      have q3 : nI i + 1 = nI (i + 1) := nI_1 i
      have q4 : (nI i).toInt.toNat = i := by omega
      simp (disch := omega) only [pt_in, pt_b2, pt_b1, pt_do, ↓reduceIte, if_pos, if_neg, Int32.lt_iff_toInt_lt, Int32.le_iff_toInt_le, i_cl, i_0, i_40, i_nar0, q, q4, q3]
      exact h1
    · rw [h3 j]
      by_cases hj : j = i
      · subst hj
        rw [if_neg (by omega), if_pos (by omega), pt_eq]
      · rw [pt_nj hj]
        by_cases hj2 : i ≤ j ∧ j < 40
        · rw [if_pos hj2, if_pos (by omega)]
        · rw [if_neg hj2, if_neg (by omega)]
theorem cl_row (k : pt_St → Int32 → Option pt_St) (a1 : Int32) : ∀ (m i n : Nat) (σ : pt_St), i + m = 40 → m < n → ∃ σ', lp_X4_renew_2 k a1 n σ (nI i) = k σ' 40 ∧ (∀ c, c ≠ 24 → σ' c = σ c) ∧ (∀ j, σ' 24 j = if i ≤ j ∧ j < 40 then 0 else σ 24 j) := by
  intro m
  induction m with
  | zero =>
    intro i n σ hi hn
    obtain ⟨n, rfl⟩ : ∃ z, n = z + 1 := ⟨n - 1, by omega⟩
    have q : (nI i).toInt = (i : Int) := i_nI (by omega)
    have q2 : nI i = 40 := by rw [i_eq, q, i_40]; omega
    refine ⟨σ, ?_, fun c _ => rfl, fun j => ?_⟩
    · rw [lp_X4_renew_2]
      simp (disch := omega) only [pt_in, pt_iw, pt_b2, pt_b1, pt_do, ↓reduceIte, if_pos, if_neg, pt_pk, pt_row, upd_at, Nat.reduceEqDiff, ↓reduceIte, Int32.lt_iff_toInt_lt, Int32.le_iff_toInt_le, i_eq, i_cl, i_m4, i_m3, i_m2, i_m1, i_0, i_1, i_2, i_3, i_4, i_5, i_6, i_8, i_10, i_16, i_31, i_32, i_39, i_40, i_64, i_160, i_200, i_240, i_255, i_400, q]
      rw [q2]
    · rw [if_neg (by omega)]
  | succ m ih =>
    intro i n σ hi hn
    obtain ⟨n, rfl⟩ : ∃ z, n = z + 1 := ⟨n - 1, by omega⟩
    have q : (nI i).toInt = (i : Int) := i_nI (by omega)
    obtain ⟨σ', h1, h2, h3⟩ := ih (i + 1) n (pt_put σ 24 i 0) (by omega) (by omega)
    refine ⟨σ', ?_, fun c hc => by rw [h2 c hc, pt_ne hc], fun j => ?_⟩
    · rw [lp_X4_renew_2]
      have q3 : nI i + 1 = nI (i + 1) := nI_1 i
      have q4 : (nI i).toInt.toNat = i := by omega
      simp (disch := omega) only [pt_in, pt_b2, pt_b1, pt_do, ↓reduceIte, if_pos, if_neg, Int32.lt_iff_toInt_lt, Int32.le_iff_toInt_le, i_cl, i_0, i_40, i_nar0, q, q4, q3]
      exact h1
    · rw [h3 j]
      by_cases hj : j = i
      · subst hj
        rw [if_neg (by omega), if_pos (by omega), pt_eq]
      · rw [pt_nj hj]
        by_cases hj2 : i ≤ j ∧ j < 40
        · rw [if_pos hj2, if_pos (by omega)]
        · rw [if_neg hj2, if_neg (by omega)]
theorem rf_clr (k : pt_St → Int32 → Int32 → Option (Int32 × pt_St)) : ∀ (m i n : Nat) (σ : pt_St) (x1 : Int32), i + m = 40 → m < n → ∃ σ', lp_X10_clear_22 k n σ x1 (nI i) = k σ' x1 40 ∧ (∀ c, c ≠ 2 → σ' c = σ c) ∧ (∀ j, σ' 2 j = if i ≤ j ∧ j < 40 then 0 else σ 2 j) := by
  intro m
  induction m with
  | zero =>
    intro i n σ x1 hi hn
    obtain ⟨n, rfl⟩ : ∃ z, n = z + 1 := ⟨n - 1, by omega⟩
    have q : (nI i).toInt = (i : Int) := i_nI (by omega)
    have q2 : nI i = 40 := by rw [i_eq, q, i_40]; omega
    refine ⟨σ, ?_, fun c _ => rfl, fun j => ?_⟩
    · rw [lp_X10_clear_22]
      simp (disch := omega) only [pt_in, pt_iw, pt_b2, pt_b1, pt_do, ↓reduceIte, if_pos, if_neg, pt_pk, pt_row, upd_at, Nat.reduceEqDiff, ↓reduceIte, Int32.lt_iff_toInt_lt, Int32.le_iff_toInt_le, i_eq, i_cl, i_m4, i_m3, i_m2, i_m1, i_0, i_1, i_2, i_3, i_4, i_5, i_6, i_8, i_10, i_16, i_31, i_32, i_39, i_40, i_64, i_160, i_200, i_240, i_255, i_400, q]
      rw [q2]
    · rw [if_neg (by omega)]
  | succ m ih =>
    intro i n σ x1 hi hn
    obtain ⟨n, rfl⟩ : ∃ z, n = z + 1 := ⟨n - 1, by omega⟩
    have q : (nI i).toInt = (i : Int) := i_nI (by omega)
    obtain ⟨σ', h1, h2, h3⟩ := ih (i + 1) n (pt_put σ 2 i 0) x1 (by omega) (by omega)
    refine ⟨σ', ?_, fun c hc => by rw [h2 c hc, pt_ne hc], fun j => ?_⟩
    · rw [lp_X10_clear_22]
      have q3 : nI i + 1 = nI (i + 1) := nI_1 i
      have q4 : (nI i).toInt.toNat = i := by omega
      simp (disch := omega) only [pt_in, pt_b2, pt_b1, pt_do, ↓reduceIte, if_pos, if_neg, Int32.lt_iff_toInt_lt, Int32.le_iff_toInt_le, i_cl, i_0, i_40, i_nar0, q, q4, q3]
      exact h1
    · rw [h3 j]
      by_cases hj : j = i
      · subst hj
        rw [if_neg (by omega), if_pos (by omega), pt_eq]
      · rw [pt_nj hj]
        by_cases hj2 : i ≤ j ∧ j < 40
        · rw [if_pos hj2, if_pos (by omega)]
        · rw [if_neg hj2, if_neg (by omega)]
