set_option maxHeartbeats 4000000 in
theorem sm_plant {σ τ : pt_St} {a1 a2 a3 a4 : Int32} (h : rl_R σ τ) : ∃ (r : Int32) (σ' τ' : pt_St), f_X9_plant σ a1 a2 a3 a4 = some (r, σ') ∧ f_X10_plant τ a1 a2 a3 a4 = some (r, τ') ∧ rl_R σ' τ' := by
  obtain ⟨hA, hB, hE, hP, hI⟩ := id h
  obtain ⟨e1, e2, e3, e4, e5, e6, e7, e8, e9, e10, e11⟩ := id hA
  obtain ⟨b1, b2, b3, b4, b5, b6, b7, b8, b9, b10, b11, b12, b13, b14⟩ := id hB
  obtain ⟨g1, g2, g3, g4, g5, g6, g7, g8, g9, g10, g11, g12, g13, g14, g15, g16, g17, g18⟩ := id hE
  by_cases c : (0 ≤ a1.toInt ∧ a1.toInt < 40) ∧ (0 ≤ a2.toInt ∧ a2.toInt < 32) ∧ (1 ≤ a3.toInt ∧ a3.toInt ≤ 6)
  · obtain ⟨⟨c1, c2⟩, ⟨c3, c4⟩, c5, c6⟩ := c
    by_cases hb : τ 0 14 = 0
    · have hb0 : (τ 0 14).toInt = 0 := by rw [hb, i_0]
      refine ⟨1, pt_put (pt_put (pt_put σ 16 a1.toInt.toNat a2) 17 a1.toInt.toNat a3) 18 a1.toInt.toNat (vp_nar .boolean a4), pt_put (pt_put (pt_put τ 2 a1.toInt.toNat a3) 3 a1.toInt.toNat a2) 4 a1.toInt.toNat (vp_nar .boolean a4), ?_, ?_, ?_⟩
      · simp (disch := omega) only [f_X9_plant, f_X3_put, e10, pt_in, pt_iw, pt_b2, pt_b1, pt_do, ↓reduceIte, if_pos, if_neg, pt_pk, pt_row, upd_at, Nat.reduceEqDiff, ↓reduceIte, Int32.lt_iff_toInt_lt, Int32.le_iff_toInt_le, i_eq, i_cl, i_m4, i_m3, i_m2, i_m1, i_0, i_1, i_2, i_3, i_4, i_5, i_6, i_8, i_10, i_16, i_31, i_32, i_39, i_40, i_64, i_160, i_200, i_240, i_255, i_400]
      · simp (disch := omega) only [f_X10_plant, f_X10_in, pt_in, pt_iw, pt_b2, pt_b1, pt_do, ↓reduceIte, if_pos, if_neg, pt_pk, pt_row, upd_at, Nat.reduceEqDiff, ↓reduceIte, Int32.lt_iff_toInt_lt, Int32.le_iff_toInt_le, i_eq, i_cl, i_m4, i_m3, i_m2, i_m1, i_0, i_1, i_2, i_3, i_4, i_5, i_6, i_8, i_10, i_16, i_31, i_32, i_39, i_40, i_64, i_160, i_200, i_240, i_255, i_400]
      · refine ⟨?_, ?_, ?_, ?_, ?_⟩
        · simp only [rl_A, pt_pk, pt_row, upd_at, Nat.reduceEqDiff, ↓reduceIte]
          simp [e1, e2, e3, e4, e5, e6, e7, e8, e9, e10, e11]
        · simp only [rl_B, pt_pk, pt_row, upd_at, Nat.reduceEqDiff, ↓reduceIte]
          simp
          refine ⟨b1, b2, b3, b4, b5, b6, b7, b8, b9, b10, fun b => ?_, b12, b13, b14⟩
          split
          · omega
          · exact b11 b
        · exact rl_E_fr hE (fun k hk => by simp (disch := omega) only [pt_ne]) (fun j hj => by simp (disch := omega) only [pt_ne]) (fun k hk => by simp (disch := omega) only [pt_ne])
        · simp only [pt_pk, pt_row, upd_at, Nat.reduceEqDiff, ↓reduceIte]
          simp only [rl_P, rl_many, pt_pk, pt_row, upd_at, Nat.reduceEqDiff, ↓reduceIte]
          simpa [rl_P, rl_many] using hP
        · simp only [pt_pk, pt_row, upd_at, Nat.reduceEqDiff, ↓reduceIte]
          simp [hb]
    · have hb0 : ¬ (τ 0 14).toInt = 0 := fun q => hb (by rw [i_eq, q, i_0])
      refine ⟨-3, σ, τ, ?_, ?_, h⟩
      · simp (disch := omega) only [f_X9_plant, e10, pt_in, pt_iw, pt_b2, pt_b1, pt_do, ↓reduceIte, if_pos, if_neg, pt_pk, pt_row, upd_at, Nat.reduceEqDiff, ↓reduceIte, Int32.lt_iff_toInt_lt, Int32.le_iff_toInt_le, i_eq, i_cl, i_m4, i_m3, i_m2, i_m1, i_0, i_1, i_2, i_3, i_4, i_5, i_6, i_8, i_10, i_16, i_31, i_32, i_39, i_40, i_64, i_160, i_200, i_240, i_255, i_400]
      · simp (disch := omega) only [f_X10_plant, f_X10_in, pt_in, pt_iw, pt_b2, pt_b1, pt_do, ↓reduceIte, if_pos, if_neg, pt_pk, pt_row, upd_at, Nat.reduceEqDiff, ↓reduceIte, Int32.lt_iff_toInt_lt, Int32.le_iff_toInt_le, i_eq, i_cl, i_m4, i_m3, i_m2, i_m1, i_0, i_1, i_2, i_3, i_4, i_5, i_6, i_8, i_10, i_16, i_31, i_32, i_39, i_40, i_64, i_160, i_200, i_240, i_255, i_400]
  · refine ⟨-2, σ, τ, ?_, ?_, h⟩
    · by_cases d1 : a1.toInt < 0
      · simp (disch := omega) only [f_X9_plant, pt_in, pt_iw, pt_b2, pt_b1, pt_do, ↓reduceIte, if_pos, if_neg, pt_pk, pt_row, upd_at, Nat.reduceEqDiff, ↓reduceIte, Int32.lt_iff_toInt_lt, Int32.le_iff_toInt_le, i_eq, i_cl, i_m4, i_m3, i_m2, i_m1, i_0, i_1, i_2, i_3, i_4, i_5, i_6, i_8, i_10, i_16, i_31, i_32, i_39, i_40, i_64, i_160, i_200, i_240, i_255, i_400]
      by_cases d2 : 40 ≤ a1.toInt
      · simp (disch := omega) only [f_X9_plant, pt_in, pt_iw, pt_b2, pt_b1, pt_do, ↓reduceIte, if_pos, if_neg, pt_pk, pt_row, upd_at, Nat.reduceEqDiff, ↓reduceIte, Int32.lt_iff_toInt_lt, Int32.le_iff_toInt_le, i_eq, i_cl, i_m4, i_m3, i_m2, i_m1, i_0, i_1, i_2, i_3, i_4, i_5, i_6, i_8, i_10, i_16, i_31, i_32, i_39, i_40, i_64, i_160, i_200, i_240, i_255, i_400]
      by_cases d3 : a2.toInt < 0
      · simp (disch := omega) only [f_X9_plant, pt_in, pt_iw, pt_b2, pt_b1, pt_do, ↓reduceIte, if_pos, if_neg, pt_pk, pt_row, upd_at, Nat.reduceEqDiff, ↓reduceIte, Int32.lt_iff_toInt_lt, Int32.le_iff_toInt_le, i_eq, i_cl, i_m4, i_m3, i_m2, i_m1, i_0, i_1, i_2, i_3, i_4, i_5, i_6, i_8, i_10, i_16, i_31, i_32, i_39, i_40, i_64, i_160, i_200, i_240, i_255, i_400]
      by_cases d4 : 32 ≤ a2.toInt
      · simp (disch := omega) only [f_X9_plant, pt_in, pt_iw, pt_b2, pt_b1, pt_do, ↓reduceIte, if_pos, if_neg, pt_pk, pt_row, upd_at, Nat.reduceEqDiff, ↓reduceIte, Int32.lt_iff_toInt_lt, Int32.le_iff_toInt_le, i_eq, i_cl, i_m4, i_m3, i_m2, i_m1, i_0, i_1, i_2, i_3, i_4, i_5, i_6, i_8, i_10, i_16, i_31, i_32, i_39, i_40, i_64, i_160, i_200, i_240, i_255, i_400]
      by_cases d5 : a3.toInt < 1
      · simp (disch := omega) only [f_X9_plant, pt_in, pt_iw, pt_b2, pt_b1, pt_do, ↓reduceIte, if_pos, if_neg, pt_pk, pt_row, upd_at, Nat.reduceEqDiff, ↓reduceIte, Int32.lt_iff_toInt_lt, Int32.le_iff_toInt_le, i_eq, i_cl, i_m4, i_m3, i_m2, i_m1, i_0, i_1, i_2, i_3, i_4, i_5, i_6, i_8, i_10, i_16, i_31, i_32, i_39, i_40, i_64, i_160, i_200, i_240, i_255, i_400]
      · simp (disch := omega) only [f_X9_plant, pt_in, pt_iw, pt_b2, pt_b1, pt_do, ↓reduceIte, if_pos, if_neg, pt_pk, pt_row, upd_at, Nat.reduceEqDiff, ↓reduceIte, Int32.lt_iff_toInt_lt, Int32.le_iff_toInt_le, i_eq, i_cl, i_m4, i_m3, i_m2, i_m1, i_0, i_1, i_2, i_3, i_4, i_5, i_6, i_8, i_10, i_16, i_31, i_32, i_39, i_40, i_64, i_160, i_200, i_240, i_255, i_400]
    · by_cases d1 : a1.toInt < 0
      · simp (disch := omega) only [f_X10_plant, f_X10_in, pt_in, pt_iw, pt_b2, pt_b1, pt_do, ↓reduceIte, if_pos, if_neg, pt_pk, pt_row, upd_at, Nat.reduceEqDiff, ↓reduceIte, Int32.lt_iff_toInt_lt, Int32.le_iff_toInt_le, i_eq, i_cl, i_m4, i_m3, i_m2, i_m1, i_0, i_1, i_2, i_3, i_4, i_5, i_6, i_8, i_10, i_16, i_31, i_32, i_39, i_40, i_64, i_160, i_200, i_240, i_255, i_400]
      by_cases d2 : 40 ≤ a1.toInt
      · simp (disch := omega) only [f_X10_plant, f_X10_in, pt_in, pt_iw, pt_b2, pt_b1, pt_do, ↓reduceIte, if_pos, if_neg, pt_pk, pt_row, upd_at, Nat.reduceEqDiff, ↓reduceIte, Int32.lt_iff_toInt_lt, Int32.le_iff_toInt_le, i_eq, i_cl, i_m4, i_m3, i_m2, i_m1, i_0, i_1, i_2, i_3, i_4, i_5, i_6, i_8, i_10, i_16, i_31, i_32, i_39, i_40, i_64, i_160, i_200, i_240, i_255, i_400]
      by_cases d3 : a2.toInt < 0
      · simp (disch := omega) only [f_X10_plant, f_X10_in, pt_in, pt_iw, pt_b2, pt_b1, pt_do, ↓reduceIte, if_pos, if_neg, pt_pk, pt_row, upd_at, Nat.reduceEqDiff, ↓reduceIte, Int32.lt_iff_toInt_lt, Int32.le_iff_toInt_le, i_eq, i_cl, i_m4, i_m3, i_m2, i_m1, i_0, i_1, i_2, i_3, i_4, i_5, i_6, i_8, i_10, i_16, i_31, i_32, i_39, i_40, i_64, i_160, i_200, i_240, i_255, i_400]
      by_cases d4 : 32 ≤ a2.toInt
      · simp (disch := omega) only [f_X10_plant, f_X10_in, pt_in, pt_iw, pt_b2, pt_b1, pt_do, ↓reduceIte, if_pos, if_neg, pt_pk, pt_row, upd_at, Nat.reduceEqDiff, ↓reduceIte, Int32.lt_iff_toInt_lt, Int32.le_iff_toInt_le, i_eq, i_cl, i_m4, i_m3, i_m2, i_m1, i_0, i_1, i_2, i_3, i_4, i_5, i_6, i_8, i_10, i_16, i_31, i_32, i_39, i_40, i_64, i_160, i_200, i_240, i_255, i_400]
      by_cases d5 : a3.toInt < 1
      · simp (disch := omega) only [f_X10_plant, f_X10_in, pt_in, pt_iw, pt_b2, pt_b1, pt_do, ↓reduceIte, if_pos, if_neg, pt_pk, pt_row, upd_at, Nat.reduceEqDiff, ↓reduceIte, Int32.lt_iff_toInt_lt, Int32.le_iff_toInt_le, i_eq, i_cl, i_m4, i_m3, i_m2, i_m1, i_0, i_1, i_2, i_3, i_4, i_5, i_6, i_8, i_10, i_16, i_31, i_32, i_39, i_40, i_64, i_160, i_200, i_240, i_255, i_400]
      · simp (disch := omega) only [f_X10_plant, f_X10_in, pt_in, pt_iw, pt_b2, pt_b1, pt_do, ↓reduceIte, if_pos, if_neg, pt_pk, pt_row, upd_at, Nat.reduceEqDiff, ↓reduceIte, Int32.lt_iff_toInt_lt, Int32.le_iff_toInt_le, i_eq, i_cl, i_m4, i_m3, i_m2, i_m1, i_0, i_1, i_2, i_3, i_4, i_5, i_6, i_8, i_10, i_16, i_31, i_32, i_39, i_40, i_64, i_160, i_200, i_240, i_255, i_400]
/-- a thread's number, when the stream has begun -/
theorem sm_thr {σ τ : pt_St} (h : rl_R σ τ) (hb : τ 0 14 = 1) (a1 : Int32) : (∃ t : Nat, t < 6 ∧ (t : Int) < (τ 0 15).toInt ∧ a1 = nI t ∧ a1.toInt = t ∧ a1.toInt.toNat = t ∧ f_X9_isThread σ a1 = some (1, σ) ∧ f_X10_isThread τ a1 = some (1, τ)) ∨ (f_X9_isThread σ a1 = some (0, σ) ∧ f_X10_isThread τ a1 = some (0, τ)) := by
  obtain ⟨hA, hB, hE, hP, hI⟩ := id h
  obtain ⟨e1, e2, e3, e4, e5, e6, e7, e8, e9, e10, e11⟩ := id hA
  obtain ⟨b1, b2, b3, b4, b5, b6, b7, b8, b9, b10, b11, b12, b13, b14⟩ := id hB
  obtain ⟨g1, g2, g3, g4, g5, g6, g7, g8, g9, g10, g11, g12, g13, g14, g15, g16, g17, g18⟩ := id hE
  obtain ⟨⟨t1, t2⟩, -⟩ := hI hb
  have hb0 : (τ 0 14).toInt = 1 := by rw [hb, i_1]
  have q := i_pred (τ 0 15) (by omega)
  by_cases c : 0 ≤ a1.toInt ∧ a1.toInt < (τ 0 15).toInt
  · refine Or.inl ⟨a1.toInt.toNat, by omega, by omega, i_of c.1, by omega, rfl, ?_, ?_⟩
    · simp (disch := omega) only [f_X9_isThread, f_X6_threads, e10, g1, pt_in, pt_iw, pt_b2, pt_b1, pt_do, ↓reduceIte, if_pos, if_neg, pt_pk, pt_row, upd_at, Nat.reduceEqDiff, ↓reduceIte, Int32.lt_iff_toInt_lt, Int32.le_iff_toInt_le, i_eq, i_cl, i_m4, i_m3, i_m2, i_m1, i_0, i_1, i_2, i_3, i_4, i_5, i_6, i_8, i_10, i_16, i_31, i_32, i_39, i_40, i_64, i_160, i_200, i_240, i_255, i_400]
    · simp (disch := omega) only [f_X10_isThread, f_X10_in, q, pt_in, pt_iw, pt_b2, pt_b1, pt_do, ↓reduceIte, if_pos, if_neg, pt_pk, pt_row, upd_at, Nat.reduceEqDiff, ↓reduceIte, Int32.lt_iff_toInt_lt, Int32.le_iff_toInt_le, i_eq, i_cl, i_m4, i_m3, i_m2, i_m1, i_0, i_1, i_2, i_3, i_4, i_5, i_6, i_8, i_10, i_16, i_31, i_32, i_39, i_40, i_64, i_160, i_200, i_240, i_255, i_400]
      simp
  · refine Or.inr ⟨?_, ?_⟩
    · by_cases d : a1.toInt < 0 <;> simp (disch := omega) only [f_X9_isThread, f_X6_threads, e10, g1, pt_in, pt_iw, pt_b2, pt_b1, pt_do, ↓reduceIte, if_pos, if_neg, pt_pk, pt_row, upd_at, Nat.reduceEqDiff, ↓reduceIte, Int32.lt_iff_toInt_lt, Int32.le_iff_toInt_le, i_eq, i_cl, i_m4, i_m3, i_m2, i_m1, i_0, i_1, i_2, i_3, i_4, i_5, i_6, i_8, i_10, i_16, i_31, i_32, i_39, i_40, i_64, i_160, i_200, i_240, i_255, i_400]
    · by_cases d : a1.toInt < 0 <;> simp (disch := omega) only [f_X10_isThread, f_X10_in, q, pt_in, pt_iw, pt_b2, pt_b1, pt_do, ↓reduceIte, if_pos, if_neg, pt_pk, pt_row, upd_at, Nat.reduceEqDiff, ↓reduceIte, Int32.lt_iff_toInt_lt, Int32.le_iff_toInt_le, i_eq, i_cl, i_m4, i_m3, i_m2, i_m1, i_0, i_1, i_2, i_3, i_4, i_5, i_6, i_8, i_10, i_16, i_31, i_32, i_39, i_40, i_64, i_160, i_200, i_240, i_255, i_400] <;> simp
/-- a thread's number, before the start -/
theorem sm_thr0 {σ τ : pt_St} (h : rl_R σ τ) (hb : τ 0 14 = 0) (a1 : Int32) : (f_X9_isThread σ a1 = some (1, σ) ∧ f_X10_isThread τ a1 = some (1, τ)) ∨ (f_X9_isThread σ a1 = some (0, σ) ∧ f_X10_isThread τ a1 = some (0, τ)) := by
  obtain ⟨hA, hB, hE, hP, hI⟩ := id h
  obtain ⟨e1, e2, e3, e4, e5, e6, e7, e8, e9, e10, e11⟩ := id hA
  obtain ⟨b1, b2, b3, b4, b5, b6, b7, b8, b9, b10, b11, b12, b13, b14⟩ := id hB
  obtain ⟨g1, g2, g3, g4, g5, g6, g7, g8, g9, g10, g11, g12, g13, g14, g15, g16, g17, g18⟩ := id hE
  have hb0 : (τ 0 14).toInt = 0 := by rw [hb, i_0]
  by_cases c : 0 ≤ a1.toInt ∧ a1.toInt < 6
  · refine Or.inl ⟨?_, ?_⟩
    · simp (disch := omega) only [f_X9_isThread, e10, pt_in, pt_iw, pt_b2, pt_b1, pt_do, ↓reduceIte, if_pos, if_neg, pt_pk, pt_row, upd_at, Nat.reduceEqDiff, ↓reduceIte, Int32.lt_iff_toInt_lt, Int32.le_iff_toInt_le, i_eq, i_cl, i_m4, i_m3, i_m2, i_m1, i_0, i_1, i_2, i_3, i_4, i_5, i_6, i_8, i_10, i_16, i_31, i_32, i_39, i_40, i_64, i_160, i_200, i_240, i_255, i_400]
    · simp (disch := omega) only [f_X10_isThread, f_X10_in, pt_in, pt_iw, pt_b2, pt_b1, pt_do, ↓reduceIte, if_pos, if_neg, pt_pk, pt_row, upd_at, Nat.reduceEqDiff, ↓reduceIte, Int32.lt_iff_toInt_lt, Int32.le_iff_toInt_le, i_eq, i_cl, i_m4, i_m3, i_m2, i_m1, i_0, i_1, i_2, i_3, i_4, i_5, i_6, i_8, i_10, i_16, i_31, i_32, i_39, i_40, i_64, i_160, i_200, i_240, i_255, i_400]
      simp
  · refine Or.inr ⟨?_, ?_⟩
    · by_cases d : a1.toInt < 0 <;> simp (disch := omega) only [f_X9_isThread, e10, pt_in, pt_iw, pt_b2, pt_b1, pt_do, ↓reduceIte, if_pos, if_neg, pt_pk, pt_row, upd_at, Nat.reduceEqDiff, ↓reduceIte, Int32.lt_iff_toInt_lt, Int32.le_iff_toInt_le, i_eq, i_cl, i_m4, i_m3, i_m2, i_m1, i_0, i_1, i_2, i_3, i_4, i_5, i_6, i_8, i_10, i_16, i_31, i_32, i_39, i_40, i_64, i_160, i_200, i_240, i_255, i_400]
    · by_cases d : a1.toInt < 0 <;> simp (disch := omega) only [f_X10_isThread, f_X10_in, pt_in, pt_iw, pt_b2, pt_b1, pt_do, ↓reduceIte, if_pos, if_neg, pt_pk, pt_row, upd_at, Nat.reduceEqDiff, ↓reduceIte, Int32.lt_iff_toInt_lt, Int32.le_iff_toInt_le, i_eq, i_cl, i_m4, i_m3, i_m2, i_m1, i_0, i_1, i_2, i_3, i_4, i_5, i_6, i_8, i_10, i_16, i_31, i_32, i_39, i_40, i_64, i_160, i_200, i_240, i_255, i_400] <;> simp
