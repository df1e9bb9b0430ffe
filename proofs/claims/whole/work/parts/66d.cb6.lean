theorem cl_b6 (k : pt_St → Int32 → Option pt_St) (a1 a2 a3 : Int32) : ∀ (m i n : Nat) (σ : pt_St), i + m = 6 → m < n → ∃ σ', lp_X6_start_8 k a1 a2 a3 n σ (nI i) = k σ' 6 ∧ (∀ c, c < 9 + i ∨ 14 < c → σ' c = σ c) ∧ (∀ j, i ≤ j → j < 6 → σ' (9 + j) 0 = σ (9 + j) 0 ∧ σ' (9 + j) 1 = 0 ∧ σ' (9 + j) 2 = -1 ∧ σ' (9 + j) 3 = -1 ∧ σ' (9 + j) 4 = 0 ∧ σ' (9 + j) 5 = 0 ∧ σ' (9 + j) 6 = 0 ∧ σ' (9 + j) 7 = 0) := by
  intro m
  induction m with
  | zero =>
    intro i n σ hi hn
    obtain ⟨n, rfl⟩ : ∃ z, n = z + 1 := ⟨n - 1, by omega⟩
    have q : (nI i).toInt = (i : Int) := i_nI (by omega)
    have q2 : nI i = 6 := by rw [i_eq, q, i_6]; omega
    refine ⟨σ, ?_, fun c _ => rfl, fun j h1 h2 => by omega⟩
    rw [lp_X6_start_8]
    simp (disch := omega) only [pt_in, pt_iw, pt_b2, pt_b1, pt_do, ↓reduceIte, if_pos, if_neg, pt_pk, pt_row, upd_at, Nat.reduceEqDiff, ↓reduceIte, Int32.lt_iff_toInt_lt, Int32.le_iff_toInt_le, i_eq, i_cl, i_m4, i_m3, i_m2, i_m1, i_0, i_1, i_2, i_3, i_4, i_5, i_6, i_8, i_10, i_16, i_31, i_32, i_39, i_40, i_64, i_160, i_200, i_240, i_255, i_400, q]
    rw [q2]
  | succ m ih =>
    intro i n σ hi hn
    obtain ⟨n, rfl⟩ : ∃ z, n = z + 1 := ⟨n - 1, by omega⟩
    have q : (nI i).toInt = (i : Int) := i_nI (by omega)
    obtain ⟨σ', h1, h2, h3⟩ := ih (i + 1) n (pt_put (pt_put (pt_put (pt_put (pt_put (pt_put (pt_put σ (9 + i) 1 0) (9 + i) 2 (-1)) (9 + i) 3 (-1)) (9 + i) 4 0) (9 + i) 5 0) (9 + i) 6 0) (9 + i) 7 0) (by omega) (by omega)
    refine ⟨σ', ?_, fun c hc => by rw [h2 c (by omega)]; simp (disch := omega) only [pt_ne], fun j hj1 hj2 => ?_⟩
    · rw [lp_X6_start_8]
      have q3 : nI i + 1 = nI (i + 1) := nI_1 i
      have q4 : (nI i).toInt.toNat = i := by omega
      simp (disch := omega) only [f_X8_renew, f_X8_becomeFree, pt_in, pt_b2, pt_b1, pt_do, ↓reduceIte, if_pos, if_neg, Int32.lt_iff_toInt_lt, Int32.le_iff_toInt_le, i_cl, i_0, i_6, q, q4, q3]
      exact h1
    · by_cases hj : j = i
      · subst hj
        rw [h2 (9 + j) (by omega)]
        simp (disch := omega) only [pt_nj, pt_eq]
        exact ⟨trivial, trivial, trivial, trivial, trivial, trivial, trivial, trivial⟩
      · obtain ⟨z, y⟩ := h3 j (by omega) hj2
        refine ⟨?_, y⟩
        rw [z]
        simp (disch := omega) only [pt_ne]
