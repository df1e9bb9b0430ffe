set_option maxHeartbeats 4000000 in
theorem sm_type {σ τ : pt_St} {a1 : Int32} (h : rl_R σ τ) : ∃ (r : Int32) (σ' τ' : pt_St), f_X9_type σ a1 = some (r, σ') ∧ f_X10_type τ a1 = some (r, τ') ∧ rl_R σ' τ' := by
  obtain ⟨hA, hB, hE, hP, hI⟩ := id h
  obtain ⟨e1, e2, e3, e4, e5, e6, e7, e8, e9, e10, e11⟩ := id hA
  obtain ⟨b1, b2, b3, b4, b5, b6, b7, b8, b9, b10, b11, b12, b13, b14⟩ := id hB
  obtain ⟨g1, g2, g3, g4, g5, g6, g7, g8, g9, g10, g11, g12, g13, g14, g15, g16, g17, g18⟩ := id hE
  by_cases c1 : a1.toInt < 0 ∨ 255 < a1.toInt
  · refine ⟨-2, σ, τ, ?_, ?_, h⟩
    · simp only [f_X9_type, Int32.lt_iff_toInt_lt, Int32.le_iff_toInt_le, i_eq, i_cl, i_m4, i_m3, i_m2, i_m1, i_0, i_1, i_2, i_3, i_4, i_5, i_6, i_8, i_10, i_16, i_31, i_32, i_39, i_40, i_64, i_160, i_200, i_240, i_255, i_400]
      rcases c1 with c1 | c1 <;> simp (disch := omega) only [pt_b2, pt_b1, pt_do, ↓reduceIte, if_pos, if_neg]
    · simp only [f_X10_type, f_X10_in, Int32.lt_iff_toInt_lt, Int32.le_iff_toInt_le, i_eq, i_cl, i_m4, i_m3, i_m2, i_m1, i_0, i_1, i_2, i_3, i_4, i_5, i_6, i_8, i_10, i_16, i_31, i_32, i_39, i_40, i_64, i_160, i_200, i_240, i_255, i_400]
      rcases c1 with c1 | c1 <;> simp (disch := omega) only [pt_b2, pt_b1, pt_do, ↓reduceIte, if_pos, if_neg, i_m4, i_m3, i_m2, i_m1, i_0, i_1, i_2, i_3, i_4, i_5, i_6, i_8, i_10, i_16, i_31, i_32, i_39, i_40, i_64, i_160, i_200, i_240, i_255, i_400]
  by_cases c2 : τ 0 14 = 0
  · by_cases c3 : τ 0 1 = 160
    · refine ⟨-4, σ, τ, ?_, ?_, h⟩
      · rw [i_eq] at c2 c3
        simp only [f_X9_type, f_X7_isFull, pt_in, e1, e10, Int32.lt_iff_toInt_lt, Int32.le_iff_toInt_le, i_eq, i_cl, i_m4, i_m3, i_m2, i_m1, i_0, i_1, i_2, i_3, i_4, i_5, i_6, i_8, i_10, i_16, i_31, i_32, i_39, i_40, i_64, i_160, i_200, i_240, i_255, i_400] at c2 c3 ⊢
        simp (disch := omega) only [pt_b2, pt_b1, pt_do, ↓reduceIte, if_pos, if_neg, i_m4, i_m3, i_m2, i_m1, i_0, i_1, i_2, i_3, i_4, i_5, i_6, i_8, i_10, i_16, i_31, i_32, i_39, i_40, i_64, i_160, i_200, i_240, i_255, i_400]
      · rw [i_eq] at c2 c3
        simp only [f_X10_type, f_X10_in, pt_in, Int32.lt_iff_toInt_lt, Int32.le_iff_toInt_le, i_eq, i_cl, i_m4, i_m3, i_m2, i_m1, i_0, i_1, i_2, i_3, i_4, i_5, i_6, i_8, i_10, i_16, i_31, i_32, i_39, i_40, i_64, i_160, i_200, i_240, i_255, i_400] at c2 c3 ⊢
        simp (disch := omega) only [pt_b2, pt_b1, pt_do, ↓reduceIte, if_pos, if_neg, i_m4, i_m3, i_m2, i_m1, i_0, i_1, i_2, i_3, i_4, i_5, i_6, i_8, i_10, i_16, i_31, i_32, i_39, i_40, i_64, i_160, i_200, i_240, i_255, i_400]
    · have c3' : (τ 0 1).toInt ≠ 160 := fun q => c3 (by rw [i_eq, q, i_160])
      refine ⟨τ 0 1 + 1, pt_put (pt_put (pt_put σ 15 (τ 0 1).toInt.toNat a1) 1 1 (τ 0 1 + 1)) 4 8 0, pt_put (pt_put (pt_put τ 1 (τ 0 1).toInt.toNat a1) 0 1 (τ 0 1 + 1)) 0 9 0, ?_, ?_, ?_⟩
      · rw [i_eq] at c2
        simp only [f_X9_type, f_X7_isFull, f_X7_add, f_X2_forget, f_X7_length, pt_in, e1, e10, Int32.lt_iff_toInt_lt, Int32.le_iff_toInt_le, i_eq, i_cl, i_m4, i_m3, i_m2, i_m1, i_0, i_1, i_2, i_3, i_4, i_5, i_6, i_8, i_10, i_16, i_31, i_32, i_39, i_40, i_64, i_160, i_200, i_240, i_255, i_400] at c2 ⊢
        simp (disch := omega) only [pt_b2, pt_b1, pt_do, ↓reduceIte, if_pos, if_neg, i_m4, i_m3, i_m2, i_m1, i_0, i_1, i_2, i_3, i_4, i_5, i_6, i_8, i_10, i_16, i_31, i_32, i_39, i_40, i_64, i_160, i_200, i_240, i_255, i_400, pt_pk, pt_row, upd_at, Nat.reduceEqDiff, ↓reduceIte, e1]
      · rw [i_eq] at c2
        simp only [f_X10_type, f_X10_in, pt_in, Int32.lt_iff_toInt_lt, Int32.le_iff_toInt_le, i_eq, i_cl, i_m4, i_m3, i_m2, i_m1, i_0, i_1, i_2, i_3, i_4, i_5, i_6, i_8, i_10, i_16, i_31, i_32, i_39, i_40, i_64, i_160, i_200, i_240, i_255, i_400] at c2 ⊢
        simp (disch := omega) only [pt_b2, pt_b1, pt_do, ↓reduceIte, if_pos, if_neg, i_m4, i_m3, i_m2, i_m1, i_0, i_1, i_2, i_3, i_4, i_5, i_6, i_8, i_10, i_16, i_31, i_32, i_39, i_40, i_64, i_160, i_200, i_240, i_255, i_400, pt_pk, pt_row, upd_at, Nat.reduceEqDiff, ↓reduceIte]
      · refine ⟨?_, ?_, ?_, ?_, ?_⟩
        · simp only [rl_A, pt_pk, pt_row, upd_at, Nat.reduceEqDiff, ↓reduceIte]
          simp [e1, e2, e3, e4, e5, e6, e7, e8, e9, e10, c2]
        · simp only [rl_B, pt_pk, pt_row, upd_at, Nat.reduceEqDiff, ↓reduceIte]
          have q1 : (τ 0 1 + 1).toInt = (τ 0 1).toInt + 1 := by rw [i_add (by rw [i_1]; omega), i_1]
          simp only [q1]
          simp [c2]
          refine ⟨by omega, by omega, b3, b4, b5, b6, b7, b8, b9, b10, b11⟩
        · exact rl_E_fr hE (fun k hk => by simp (disch := omega) only [pt_ne]) (fun j hj => by simp (disch := omega) only [pt_ne, pt_nj]) (fun k hk => by simp (disch := omega) only [pt_ne])
        · simp only [pt_pk, pt_row, upd_at, Nat.reduceEqDiff, ↓reduceIte]
          simp
        · simp only [pt_pk, pt_row, upd_at, Nat.reduceEqDiff, ↓reduceIte]
          simp [c2]
  · refine ⟨-3, σ, τ, ?_, ?_, h⟩
    · rw [i_eq] at c2
      simp only [f_X9_type, e10, Int32.lt_iff_toInt_lt, Int32.le_iff_toInt_le, i_eq, i_cl, i_m4, i_m3, i_m2, i_m1, i_0, i_1, i_2, i_3, i_4, i_5, i_6, i_8, i_10, i_16, i_31, i_32, i_39, i_40, i_64, i_160, i_200, i_240, i_255, i_400] at c2 ⊢
      simp (disch := omega) only [pt_b2, pt_b1, pt_do, ↓reduceIte, if_pos, if_neg, i_m4, i_m3, i_m2, i_m1, i_0, i_1, i_2, i_3, i_4, i_5, i_6, i_8, i_10, i_16, i_31, i_32, i_39, i_40, i_64, i_160, i_200, i_240, i_255, i_400]
    · rw [i_eq] at c2
      simp only [f_X10_type, f_X10_in, Int32.lt_iff_toInt_lt, Int32.le_iff_toInt_le, i_eq, i_cl, i_m4, i_m3, i_m2, i_m1, i_0, i_1, i_2, i_3, i_4, i_5, i_6, i_8, i_10, i_16, i_31, i_32, i_39, i_40, i_64, i_160, i_200, i_240, i_255, i_400] at c2 ⊢
      simp (disch := omega) only [pt_b2, pt_b1, pt_do, ↓reduceIte, if_pos, if_neg, i_m4, i_m3, i_m2, i_m1, i_0, i_1, i_2, i_3, i_4, i_5, i_6, i_8, i_10, i_16, i_31, i_32, i_39, i_40, i_64, i_160, i_200, i_240, i_255, i_400]

set_option maxHeartbeats 4000000 in
theorem sm_set {σ τ : pt_St} {a1 a2 : Int32} (h : rl_R σ τ) : ∃ (r : Int32) (σ' τ' : pt_St), f_X9_set σ a1 a2 = some (r, σ') ∧ f_X10_set τ a1 a2 = some (r, τ') ∧ rl_R σ' τ' := by
  obtain ⟨hA, hB, hE, hP, hI⟩ := id h
  obtain ⟨e1, e2, e3, e4, e5, e6, e7, e8, e9, e10, e11⟩ := id hA
  obtain ⟨b1, b2, b3, b4, b5, b6, b7, b8, b9, b10, b11, b12, b13, b14⟩ := id hB
  obtain ⟨g1, g2, g3, g4, g5, g6, g7, g8, g9, g10, g11, g12, g13, g14, g15, g16, g17, g18⟩ := id hE
  by_cases hn : a1.toInt < 0 ∨ 4 ≤ a1.toInt
  · refine ⟨-2, σ, τ, ?_, ?_, h⟩
    · by_cases c : a1.toInt < 0 <;> simp (disch := omega) only [f_X9_set, f_X5_allows, pt_in, pt_iw, pt_b2, pt_b1, pt_do, ↓reduceIte, if_pos, if_neg, pt_pk, pt_row, upd_at, Nat.reduceEqDiff, ↓reduceIte, Int32.lt_iff_toInt_lt, Int32.le_iff_toInt_le, i_eq, i_cl, i_m4, i_m3, i_m2, i_m1, i_0, i_1, i_2, i_3, i_4, i_5, i_6, i_8, i_10, i_16, i_31, i_32, i_39, i_40, i_64, i_160, i_200, i_240, i_255, i_400]
    · simp (disch := omega) only [f_X10_set, pt_in, pt_iw, pt_b2, pt_b1, pt_do, ↓reduceIte, if_pos, if_neg, pt_pk, pt_row, upd_at, Nat.reduceEqDiff, ↓reduceIte, Int32.lt_iff_toInt_lt, Int32.le_iff_toInt_le, i_eq, i_cl, i_m4, i_m3, i_m2, i_m1, i_0, i_1, i_2, i_3, i_4, i_5, i_6, i_8, i_10, i_16, i_31, i_32, i_39, i_40, i_64, i_160, i_200, i_240, i_255, i_400]
  have hk : ∀ k, (k = 4 ∨ k = 2) ∨ ((5 ≤ k ∧ k ≤ 14) ∨ k = 20 ∨ k = 21 ∨ (24 ≤ k ∧ k ≤ 26)) → True := fun _ _ => trivial
  have fin : ∀ (j : Nat) (w x y z : Int32), j < 4 → τ 0 14 = 0 → (j = 0 → 4 ≤ a2.toInt ∧ a2.toInt ≤ 32) → (j = 1 → 0 ≤ a2.toInt ∧ a2.toInt ≤ 64) → (j = 2 → 32 ≤ a2.toInt ∧ a2.toInt ≤ 200) → (j = 3 → 1 ≤ a2.toInt ∧ a2.toInt ≤ 8) →
      w = (if j = 0 then a2 else τ 0 2) → x = (if j = 1 then a2 else τ 0 3) → y = (if j = 2 then a2 else τ 0 4) → z = (if j = 3 then a2 else τ 0 5) → rl_R (pt_put (pt_put σ 4 8 0) 2 j a2) (pt_put (pt_put (pt_put (pt_put (pt_put τ 0 2 w) 0 3 x) 0 4 y) 0 5 z) 0 9 0) := by
    intro j w x y z hj d k0 k1 k2 k3 ew ex ey ez
    refine ⟨?_, ?_, ?_, ?_, ?_⟩
    · simp only [rl_A, pt_pk, pt_row, upd_at, Nat.reduceEqDiff, ↓reduceIte]
      subst ew ex ey ez
      rcases (show j = 0 ∨ j = 1 ∨ j = 2 ∨ j = 3 by omega) with rfl | rfl | rfl | rfl <;> simp [e1, e2, e3, e4, e5, e6, e7, e8, e9, e10]
    · simp only [rl_B, pt_pk, pt_row, upd_at, Nat.reduceEqDiff, ↓reduceIte]
      subst ew ex ey ez
      rcases (show j = 0 ∨ j = 1 ∨ j = 2 ∨ j = 3 by omega) with rfl | rfl | rfl | rfl <;> simp [d] <;> simp at k0 k1 k2 k3 <;> refine ⟨by omega, by omega, by omega, by omega, by omega, by omega, by omega, by omega, by omega, by omega, b11⟩
    · exact rl_E_fr hE (fun k hk => by simp (disch := omega) only [pt_ne]) (fun j hj => by simp (disch := omega) only [pt_nj]) (fun k hk => by simp (disch := omega) only [pt_ne])
    · simp only [pt_pk, pt_row, upd_at, Nat.reduceEqDiff, ↓reduceIte]
      simp
    · simp only [pt_pk, pt_row, upd_at, Nat.reduceEqDiff, ↓reduceIte]
      simp [d]
  by_cases hb : τ 0 14 = 0
  · have hb0 : (τ 0 14).toInt = 0 := by rw [hb, i_0]
    rcases (show a1.toInt = 0 ∨ a1.toInt = 1 ∨ a1.toInt = 2 ∨ a1.toInt = 3 by omega) with c | c | c | c
    · have q : a1.toInt.toNat = 0 := by omega
      by_cases d : 4 ≤ a2.toInt ∧ a2.toInt ≤ 32
      · exact ⟨τ 0 2, _, _, by simp (disch := omega) only [f_X9_set, f_X5_allows, f_X2_forget, f_X5_replace, q, pt_lo, pt_hi, e3, e4, e5, e6, e10, pt_in, pt_iw, pt_b2, pt_b1, pt_do, ↓reduceIte, if_pos, if_neg, pt_pk, pt_row, upd_at, Nat.reduceEqDiff, ↓reduceIte, Int32.lt_iff_toInt_lt, Int32.le_iff_toInt_le, i_eq, i_cl, i_m4, i_m3, i_m2, i_m1, i_0, i_1, i_2, i_3, i_4, i_5, i_6, i_8, i_10, i_16, i_31, i_32, i_39, i_40, i_64, i_160, i_200, i_240, i_255, i_400], by simp (disch := omega) only [f_X10_set, f_X10_in, pt_in, pt_iw, pt_b2, pt_b1, pt_do, ↓reduceIte, if_pos, if_neg, pt_pk, pt_row, upd_at, Nat.reduceEqDiff, ↓reduceIte, Int32.lt_iff_toInt_lt, Int32.le_iff_toInt_le, i_eq, i_cl, i_m4, i_m3, i_m2, i_m1, i_0, i_1, i_2, i_3, i_4, i_5, i_6, i_8, i_10, i_16, i_31, i_32, i_39, i_40, i_64, i_160, i_200, i_240, i_255, i_400], fin 0 a2 (τ 0 3) (τ 0 4) (τ 0 5) (by omega) hb (fun _ => d) (by simp) (by simp) (by simp) rfl rfl rfl rfl⟩
      · refine ⟨-2, σ, τ, ?_, ?_, h⟩
        · by_cases d1 : a2.toInt < 4 <;> simp (disch := omega) only [f_X9_set, f_X5_allows, q, pt_lo, pt_hi, pt_in, pt_iw, pt_b2, pt_b1, pt_do, ↓reduceIte, if_pos, if_neg, pt_pk, pt_row, upd_at, Nat.reduceEqDiff, ↓reduceIte, Int32.lt_iff_toInt_lt, Int32.le_iff_toInt_le, i_eq, i_cl, i_m4, i_m3, i_m2, i_m1, i_0, i_1, i_2, i_3, i_4, i_5, i_6, i_8, i_10, i_16, i_31, i_32, i_39, i_40, i_64, i_160, i_200, i_240, i_255, i_400]
        · by_cases d1 : a2.toInt < 4 <;> simp (disch := omega) only [f_X10_set, f_X10_in, pt_in, pt_iw, pt_b2, pt_b1, pt_do, ↓reduceIte, if_pos, if_neg, pt_pk, pt_row, upd_at, Nat.reduceEqDiff, ↓reduceIte, Int32.lt_iff_toInt_lt, Int32.le_iff_toInt_le, i_eq, i_cl, i_m4, i_m3, i_m2, i_m1, i_0, i_1, i_2, i_3, i_4, i_5, i_6, i_8, i_10, i_16, i_31, i_32, i_39, i_40, i_64, i_160, i_200, i_240, i_255, i_400]
    · have q : a1.toInt.toNat = 1 := by omega
      by_cases d : 0 ≤ a2.toInt ∧ a2.toInt ≤ 64
      · exact ⟨τ 0 3, _, _, by simp (disch := omega) only [f_X9_set, f_X5_allows, f_X2_forget, f_X5_replace, q, pt_lo, pt_hi, e3, e4, e5, e6, e10, pt_in, pt_iw, pt_b2, pt_b1, pt_do, ↓reduceIte, if_pos, if_neg, pt_pk, pt_row, upd_at, Nat.reduceEqDiff, ↓reduceIte, Int32.lt_iff_toInt_lt, Int32.le_iff_toInt_le, i_eq, i_cl, i_m4, i_m3, i_m2, i_m1, i_0, i_1, i_2, i_3, i_4, i_5, i_6, i_8, i_10, i_16, i_31, i_32, i_39, i_40, i_64, i_160, i_200, i_240, i_255, i_400], by simp (disch := omega) only [f_X10_set, f_X10_in, pt_in, pt_iw, pt_b2, pt_b1, pt_do, ↓reduceIte, if_pos, if_neg, pt_pk, pt_row, upd_at, Nat.reduceEqDiff, ↓reduceIte, Int32.lt_iff_toInt_lt, Int32.le_iff_toInt_le, i_eq, i_cl, i_m4, i_m3, i_m2, i_m1, i_0, i_1, i_2, i_3, i_4, i_5, i_6, i_8, i_10, i_16, i_31, i_32, i_39, i_40, i_64, i_160, i_200, i_240, i_255, i_400], fin 1 (τ 0 2) a2 (τ 0 4) (τ 0 5) (by omega) hb (by simp) (fun _ => d) (by simp) (by simp) rfl rfl rfl rfl⟩
      · refine ⟨-2, σ, τ, ?_, ?_, h⟩
        · by_cases d1 : a2.toInt < 0 <;> simp (disch := omega) only [f_X9_set, f_X5_allows, q, pt_lo, pt_hi, pt_in, pt_iw, pt_b2, pt_b1, pt_do, ↓reduceIte, if_pos, if_neg, pt_pk, pt_row, upd_at, Nat.reduceEqDiff, ↓reduceIte, Int32.lt_iff_toInt_lt, Int32.le_iff_toInt_le, i_eq, i_cl, i_m4, i_m3, i_m2, i_m1, i_0, i_1, i_2, i_3, i_4, i_5, i_6, i_8, i_10, i_16, i_31, i_32, i_39, i_40, i_64, i_160, i_200, i_240, i_255, i_400]
        · by_cases d1 : a2.toInt < 0 <;> simp (disch := omega) only [f_X10_set, f_X10_in, pt_in, pt_iw, pt_b2, pt_b1, pt_do, ↓reduceIte, if_pos, if_neg, pt_pk, pt_row, upd_at, Nat.reduceEqDiff, ↓reduceIte, Int32.lt_iff_toInt_lt, Int32.le_iff_toInt_le, i_eq, i_cl, i_m4, i_m3, i_m2, i_m1, i_0, i_1, i_2, i_3, i_4, i_5, i_6, i_8, i_10, i_16, i_31, i_32, i_39, i_40, i_64, i_160, i_200, i_240, i_255, i_400]
    · have q : a1.toInt.toNat = 2 := by omega
      by_cases d : 32 ≤ a2.toInt ∧ a2.toInt ≤ 200
      · exact ⟨τ 0 4, _, _, by simp (disch := omega) only [f_X9_set, f_X5_allows, f_X2_forget, f_X5_replace, q, pt_lo, pt_hi, e3, e4, e5, e6, e10, pt_in, pt_iw, pt_b2, pt_b1, pt_do, ↓reduceIte, if_pos, if_neg, pt_pk, pt_row, upd_at, Nat.reduceEqDiff, ↓reduceIte, Int32.lt_iff_toInt_lt, Int32.le_iff_toInt_le, i_eq, i_cl, i_m4, i_m3, i_m2, i_m1, i_0, i_1, i_2, i_3, i_4, i_5, i_6, i_8, i_10, i_16, i_31, i_32, i_39, i_40, i_64, i_160, i_200, i_240, i_255, i_400], by simp (disch := omega) only [f_X10_set, f_X10_in, pt_in, pt_iw, pt_b2, pt_b1, pt_do, ↓reduceIte, if_pos, if_neg, pt_pk, pt_row, upd_at, Nat.reduceEqDiff, ↓reduceIte, Int32.lt_iff_toInt_lt, Int32.le_iff_toInt_le, i_eq, i_cl, i_m4, i_m3, i_m2, i_m1, i_0, i_1, i_2, i_3, i_4, i_5, i_6, i_8, i_10, i_16, i_31, i_32, i_39, i_40, i_64, i_160, i_200, i_240, i_255, i_400], fin 2 (τ 0 2) (τ 0 3) a2 (τ 0 5) (by omega) hb (by simp) (by simp) (fun _ => d) (by simp) rfl rfl rfl rfl⟩
      · refine ⟨-2, σ, τ, ?_, ?_, h⟩
        · by_cases d1 : a2.toInt < 32 <;> simp (disch := omega) only [f_X9_set, f_X5_allows, q, pt_lo, pt_hi, pt_in, pt_iw, pt_b2, pt_b1, pt_do, ↓reduceIte, if_pos, if_neg, pt_pk, pt_row, upd_at, Nat.reduceEqDiff, ↓reduceIte, Int32.lt_iff_toInt_lt, Int32.le_iff_toInt_le, i_eq, i_cl, i_m4, i_m3, i_m2, i_m1, i_0, i_1, i_2, i_3, i_4, i_5, i_6, i_8, i_10, i_16, i_31, i_32, i_39, i_40, i_64, i_160, i_200, i_240, i_255, i_400]
        · by_cases d1 : a2.toInt < 32 <;> simp (disch := omega) only [f_X10_set, f_X10_in, pt_in, pt_iw, pt_b2, pt_b1, pt_do, ↓reduceIte, if_pos, if_neg, pt_pk, pt_row, upd_at, Nat.reduceEqDiff, ↓reduceIte, Int32.lt_iff_toInt_lt, Int32.le_iff_toInt_le, i_eq, i_cl, i_m4, i_m3, i_m2, i_m1, i_0, i_1, i_2, i_3, i_4, i_5, i_6, i_8, i_10, i_16, i_31, i_32, i_39, i_40, i_64, i_160, i_200, i_240, i_255, i_400]
    · have q : a1.toInt.toNat = 3 := by omega
      by_cases d : 1 ≤ a2.toInt ∧ a2.toInt ≤ 8
      · exact ⟨τ 0 5, _, _, by simp (disch := omega) only [f_X9_set, f_X5_allows, f_X2_forget, f_X5_replace, q, pt_lo, pt_hi, e3, e4, e5, e6, e10, pt_in, pt_iw, pt_b2, pt_b1, pt_do, ↓reduceIte, if_pos, if_neg, pt_pk, pt_row, upd_at, Nat.reduceEqDiff, ↓reduceIte, Int32.lt_iff_toInt_lt, Int32.le_iff_toInt_le, i_eq, i_cl, i_m4, i_m3, i_m2, i_m1, i_0, i_1, i_2, i_3, i_4, i_5, i_6, i_8, i_10, i_16, i_31, i_32, i_39, i_40, i_64, i_160, i_200, i_240, i_255, i_400], by simp (disch := omega) only [f_X10_set, f_X10_in, pt_in, pt_iw, pt_b2, pt_b1, pt_do, ↓reduceIte, if_pos, if_neg, pt_pk, pt_row, upd_at, Nat.reduceEqDiff, ↓reduceIte, Int32.lt_iff_toInt_lt, Int32.le_iff_toInt_le, i_eq, i_cl, i_m4, i_m3, i_m2, i_m1, i_0, i_1, i_2, i_3, i_4, i_5, i_6, i_8, i_10, i_16, i_31, i_32, i_39, i_40, i_64, i_160, i_200, i_240, i_255, i_400], fin 3 (τ 0 2) (τ 0 3) (τ 0 4) a2 (by omega) hb (by simp) (by simp) (by simp) (fun _ => d) rfl rfl rfl rfl⟩
      · refine ⟨-2, σ, τ, ?_, ?_, h⟩
        · by_cases d1 : a2.toInt < 1 <;> simp (disch := omega) only [f_X9_set, f_X5_allows, q, pt_lo, pt_hi, pt_in, pt_iw, pt_b2, pt_b1, pt_do, ↓reduceIte, if_pos, if_neg, pt_pk, pt_row, upd_at, Nat.reduceEqDiff, ↓reduceIte, Int32.lt_iff_toInt_lt, Int32.le_iff_toInt_le, i_eq, i_cl, i_m4, i_m3, i_m2, i_m1, i_0, i_1, i_2, i_3, i_4, i_5, i_6, i_8, i_10, i_16, i_31, i_32, i_39, i_40, i_64, i_160, i_200, i_240, i_255, i_400]
        · by_cases d1 : a2.toInt < 1 <;> simp (disch := omega) only [f_X10_set, f_X10_in, pt_in, pt_iw, pt_b2, pt_b1, pt_do, ↓reduceIte, if_pos, if_neg, pt_pk, pt_row, upd_at, Nat.reduceEqDiff, ↓reduceIte, Int32.lt_iff_toInt_lt, Int32.le_iff_toInt_le, i_eq, i_cl, i_m4, i_m3, i_m2, i_m1, i_0, i_1, i_2, i_3, i_4, i_5, i_6, i_8, i_10, i_16, i_31, i_32, i_39, i_40, i_64, i_160, i_200, i_240, i_255, i_400]
  · have hb0 : ¬ (τ 0 14).toInt = 0 := fun q => hb (by rw [i_eq, q, i_0])
    rcases (show a1.toInt = 0 ∨ a1.toInt = 1 ∨ a1.toInt = 2 ∨ a1.toInt = 3 by omega) with c | c | c | c
    · have q : a1.toInt.toNat = 0 := by omega
      by_cases d : 4 ≤ a2.toInt ∧ a2.toInt ≤ 32
      · exact ⟨-3, σ, τ, by simp (disch := omega) only [f_X9_set, f_X5_allows, q, pt_lo, pt_hi, e10, pt_in, pt_iw, pt_b2, pt_b1, pt_do, ↓reduceIte, if_pos, if_neg, pt_pk, pt_row, upd_at, Nat.reduceEqDiff, ↓reduceIte, Int32.lt_iff_toInt_lt, Int32.le_iff_toInt_le, i_eq, i_cl, i_m4, i_m3, i_m2, i_m1, i_0, i_1, i_2, i_3, i_4, i_5, i_6, i_8, i_10, i_16, i_31, i_32, i_39, i_40, i_64, i_160, i_200, i_240, i_255, i_400], by simp (disch := omega) only [f_X10_set, f_X10_in, pt_in, pt_iw, pt_b2, pt_b1, pt_do, ↓reduceIte, if_pos, if_neg, pt_pk, pt_row, upd_at, Nat.reduceEqDiff, ↓reduceIte, Int32.lt_iff_toInt_lt, Int32.le_iff_toInt_le, i_eq, i_cl, i_m4, i_m3, i_m2, i_m1, i_0, i_1, i_2, i_3, i_4, i_5, i_6, i_8, i_10, i_16, i_31, i_32, i_39, i_40, i_64, i_160, i_200, i_240, i_255, i_400], h⟩
      · refine ⟨-2, σ, τ, ?_, ?_, h⟩
        · by_cases d1 : a2.toInt < 4 <;> simp (disch := omega) only [f_X9_set, f_X5_allows, q, pt_lo, pt_hi, pt_in, pt_iw, pt_b2, pt_b1, pt_do, ↓reduceIte, if_pos, if_neg, pt_pk, pt_row, upd_at, Nat.reduceEqDiff, ↓reduceIte, Int32.lt_iff_toInt_lt, Int32.le_iff_toInt_le, i_eq, i_cl, i_m4, i_m3, i_m2, i_m1, i_0, i_1, i_2, i_3, i_4, i_5, i_6, i_8, i_10, i_16, i_31, i_32, i_39, i_40, i_64, i_160, i_200, i_240, i_255, i_400]
        · by_cases d1 : a2.toInt < 4 <;> simp (disch := omega) only [f_X10_set, f_X10_in, pt_in, pt_iw, pt_b2, pt_b1, pt_do, ↓reduceIte, if_pos, if_neg, pt_pk, pt_row, upd_at, Nat.reduceEqDiff, ↓reduceIte, Int32.lt_iff_toInt_lt, Int32.le_iff_toInt_le, i_eq, i_cl, i_m4, i_m3, i_m2, i_m1, i_0, i_1, i_2, i_3, i_4, i_5, i_6, i_8, i_10, i_16, i_31, i_32, i_39, i_40, i_64, i_160, i_200, i_240, i_255, i_400]
    · have q : a1.toInt.toNat = 1 := by omega
      by_cases d : 0 ≤ a2.toInt ∧ a2.toInt ≤ 64
      · exact ⟨-3, σ, τ, by simp (disch := omega) only [f_X9_set, f_X5_allows, q, pt_lo, pt_hi, e10, pt_in, pt_iw, pt_b2, pt_b1, pt_do, ↓reduceIte, if_pos, if_neg, pt_pk, pt_row, upd_at, Nat.reduceEqDiff, ↓reduceIte, Int32.lt_iff_toInt_lt, Int32.le_iff_toInt_le, i_eq, i_cl, i_m4, i_m3, i_m2, i_m1, i_0, i_1, i_2, i_3, i_4, i_5, i_6, i_8, i_10, i_16, i_31, i_32, i_39, i_40, i_64, i_160, i_200, i_240, i_255, i_400], by simp (disch := omega) only [f_X10_set, f_X10_in, pt_in, pt_iw, pt_b2, pt_b1, pt_do, ↓reduceIte, if_pos, if_neg, pt_pk, pt_row, upd_at, Nat.reduceEqDiff, ↓reduceIte, Int32.lt_iff_toInt_lt, Int32.le_iff_toInt_le, i_eq, i_cl, i_m4, i_m3, i_m2, i_m1, i_0, i_1, i_2, i_3, i_4, i_5, i_6, i_8, i_10, i_16, i_31, i_32, i_39, i_40, i_64, i_160, i_200, i_240, i_255, i_400], h⟩
      · refine ⟨-2, σ, τ, ?_, ?_, h⟩
        · by_cases d1 : a2.toInt < 0 <;> simp (disch := omega) only [f_X9_set, f_X5_allows, q, pt_lo, pt_hi, pt_in, pt_iw, pt_b2, pt_b1, pt_do, ↓reduceIte, if_pos, if_neg, pt_pk, pt_row, upd_at, Nat.reduceEqDiff, ↓reduceIte, Int32.lt_iff_toInt_lt, Int32.le_iff_toInt_le, i_eq, i_cl, i_m4, i_m3, i_m2, i_m1, i_0, i_1, i_2, i_3, i_4, i_5, i_6, i_8, i_10, i_16, i_31, i_32, i_39, i_40, i_64, i_160, i_200, i_240, i_255, i_400]
        · by_cases d1 : a2.toInt < 0 <;> simp (disch := omega) only [f_X10_set, f_X10_in, pt_in, pt_iw, pt_b2, pt_b1, pt_do, ↓reduceIte, if_pos, if_neg, pt_pk, pt_row, upd_at, Nat.reduceEqDiff, ↓reduceIte, Int32.lt_iff_toInt_lt, Int32.le_iff_toInt_le, i_eq, i_cl, i_m4, i_m3, i_m2, i_m1, i_0, i_1, i_2, i_3, i_4, i_5, i_6, i_8, i_10, i_16, i_31, i_32, i_39, i_40, i_64, i_160, i_200, i_240, i_255, i_400]
    · have q : a1.toInt.toNat = 2 := by omega
      by_cases d : 32 ≤ a2.toInt ∧ a2.toInt ≤ 200
      · exact ⟨-3, σ, τ, by simp (disch := omega) only [f_X9_set, f_X5_allows, q, pt_lo, pt_hi, e10, pt_in, pt_iw, pt_b2, pt_b1, pt_do, ↓reduceIte, if_pos, if_neg, pt_pk, pt_row, upd_at, Nat.reduceEqDiff, ↓reduceIte, Int32.lt_iff_toInt_lt, Int32.le_iff_toInt_le, i_eq, i_cl, i_m4, i_m3, i_m2, i_m1, i_0, i_1, i_2, i_3, i_4, i_5, i_6, i_8, i_10, i_16, i_31, i_32, i_39, i_40, i_64, i_160, i_200, i_240, i_255, i_400], by simp (disch := omega) only [f_X10_set, f_X10_in, pt_in, pt_iw, pt_b2, pt_b1, pt_do, ↓reduceIte, if_pos, if_neg, pt_pk, pt_row, upd_at, Nat.reduceEqDiff, ↓reduceIte, Int32.lt_iff_toInt_lt, Int32.le_iff_toInt_le, i_eq, i_cl, i_m4, i_m3, i_m2, i_m1, i_0, i_1, i_2, i_3, i_4, i_5, i_6, i_8, i_10, i_16, i_31, i_32, i_39, i_40, i_64, i_160, i_200, i_240, i_255, i_400], h⟩
      · refine ⟨-2, σ, τ, ?_, ?_, h⟩
        · by_cases d1 : a2.toInt < 32 <;> simp (disch := omega) only [f_X9_set, f_X5_allows, q, pt_lo, pt_hi, pt_in, pt_iw, pt_b2, pt_b1, pt_do, ↓reduceIte, if_pos, if_neg, pt_pk, pt_row, upd_at, Nat.reduceEqDiff, ↓reduceIte, Int32.lt_iff_toInt_lt, Int32.le_iff_toInt_le, i_eq, i_cl, i_m4, i_m3, i_m2, i_m1, i_0, i_1, i_2, i_3, i_4, i_5, i_6, i_8, i_10, i_16, i_31, i_32, i_39, i_40, i_64, i_160, i_200, i_240, i_255, i_400]
        · by_cases d1 : a2.toInt < 32 <;> simp (disch := omega) only [f_X10_set, f_X10_in, pt_in, pt_iw, pt_b2, pt_b1, pt_do, ↓reduceIte, if_pos, if_neg, pt_pk, pt_row, upd_at, Nat.reduceEqDiff, ↓reduceIte, Int32.lt_iff_toInt_lt, Int32.le_iff_toInt_le, i_eq, i_cl, i_m4, i_m3, i_m2, i_m1, i_0, i_1, i_2, i_3, i_4, i_5, i_6, i_8, i_10, i_16, i_31, i_32, i_39, i_40, i_64, i_160, i_200, i_240, i_255, i_400]
    · have q : a1.toInt.toNat = 3 := by omega
      by_cases d : 1 ≤ a2.toInt ∧ a2.toInt ≤ 8
      · exact ⟨-3, σ, τ, by simp (disch := omega) only [f_X9_set, f_X5_allows, q, pt_lo, pt_hi, e10, pt_in, pt_iw, pt_b2, pt_b1, pt_do, ↓reduceIte, if_pos, if_neg, pt_pk, pt_row, upd_at, Nat.reduceEqDiff, ↓reduceIte, Int32.lt_iff_toInt_lt, Int32.le_iff_toInt_le, i_eq, i_cl, i_m4, i_m3, i_m2, i_m1, i_0, i_1, i_2, i_3, i_4, i_5, i_6, i_8, i_10, i_16, i_31, i_32, i_39, i_40, i_64, i_160, i_200, i_240, i_255, i_400], by simp (disch := omega) only [f_X10_set, f_X10_in, pt_in, pt_iw, pt_b2, pt_b1, pt_do, ↓reduceIte, if_pos, if_neg, pt_pk, pt_row, upd_at, Nat.reduceEqDiff, ↓reduceIte, Int32.lt_iff_toInt_lt, Int32.le_iff_toInt_le, i_eq, i_cl, i_m4, i_m3, i_m2, i_m1, i_0, i_1, i_2, i_3, i_4, i_5, i_6, i_8, i_10, i_16, i_31, i_32, i_39, i_40, i_64, i_160, i_200, i_240, i_255, i_400], h⟩
      · refine ⟨-2, σ, τ, ?_, ?_, h⟩
        · by_cases d1 : a2.toInt < 1 <;> simp (disch := omega) only [f_X9_set, f_X5_allows, q, pt_lo, pt_hi, pt_in, pt_iw, pt_b2, pt_b1, pt_do, ↓reduceIte, if_pos, if_neg, pt_pk, pt_row, upd_at, Nat.reduceEqDiff, ↓reduceIte, Int32.lt_iff_toInt_lt, Int32.le_iff_toInt_le, i_eq, i_cl, i_m4, i_m3, i_m2, i_m1, i_0, i_1, i_2, i_3, i_4, i_5, i_6, i_8, i_10, i_16, i_31, i_32, i_39, i_40, i_64, i_160, i_200, i_240, i_255, i_400]
        · by_cases d1 : a2.toInt < 1 <;> simp (disch := omega) only [f_X10_set, f_X10_in, pt_in, pt_iw, pt_b2, pt_b1, pt_do, ↓reduceIte, if_pos, if_neg, pt_pk, pt_row, upd_at, Nat.reduceEqDiff, ↓reduceIte, Int32.lt_iff_toInt_lt, Int32.le_iff_toInt_le, i_eq, i_cl, i_m4, i_m3, i_m2, i_m1, i_0, i_1, i_2, i_3, i_4, i_5, i_6, i_8, i_10, i_16, i_31, i_32, i_39, i_40, i_64, i_160, i_200, i_240, i_255, i_400]
