theorem rl_many_fr {τ τ' : pt_St} (h1 : τ' 0 1 = τ 0 1) (h2 : τ' 0 2 = τ 0 2) : rl_many τ' = rl_many τ := by unfold rl_many; rw [h1, h2]
theorem rl_len_fr {τ τ' : pt_St} (h1 : τ' 0 1 = τ 0 1) (h2 : τ' 0 2 = τ 0 2) (b : Int) : rl_len τ' b = rl_len τ b := by unfold rl_len; rw [h1, h2]
theorem rl_sum_fr {τ τ' : pt_St} (h1 : τ' 0 1 = τ 0 1) (h2 : τ' 0 2 = τ 0 2) : ∀ n : Nat, (∀ t, t < n → τ' 8 t = τ 8 t ∧ (τ 8 t = 2 → τ' 9 t = τ 9 t)) → rl_sum τ' n = rl_sum τ n
  | 0, _ => rfl
  | n + 1, h => by
    simp only [rl_sum]
    rw [rl_sum_fr h1 h2 n (fun t ht => h t (by omega)), (h n (by omega)).1]
    by_cases c : τ 8 n = 2
    · rw [if_pos c, if_pos c, (h n (by omega)).2 c, rl_len_fr h1 h2]
    · rw [if_neg c, if_neg c]
theorem rl_T_fr {σ τ σ' τ' : pt_St} {t : Nat} (h : rl_T σ τ t) (s2 : σ' (9 + t) 3 = σ (9 + t) 3 ∧ σ' (9 + t) 4 = σ (9 + t) 4) (t0 : ∀ j, (j = 1 ∨ j = 2 ∨ j = 15 ∨ j = 16) → τ' 0 j = τ 0 j) (t1 : ∀ k, (k = 7 ∨ k = 8 ∨ k = 9 ∨ k = 10 ∨ k = 14) → τ' k = τ k) : rl_T σ' τ' t := by
  unfold rl_T at h ⊢
  rw [t0 15 (by omega), t0 16 (by omega), t1 7 (by omega), t1 8 (by omega), t1 9 (by omega), t1 10 (by omega), t1 14 (by omega), s2.1, s2.2, rl_len_fr (t0 1 (by omega)) (t0 2 (by omega))]
  exact h
theorem rl_I_fr {σ τ σ' τ' : pt_St} (h : rl_I σ τ) (s1 : σ' 7 2 = σ 7 2) (s2 : ∀ t, t < 6 → σ' (9 + t) 3 = σ (9 + t) 3 ∧ σ' (9 + t) 4 = σ (9 + t) 4) (s3 : σ' 23 = σ 23) (t0 : ∀ j, (j = 1 ∨ j = 2 ∨ j = 4 ∨ j = 5 ∨ (15 ≤ j ∧ j ≤ 35)) → τ' 0 j = τ 0 j) (t1 : ∀ k, 7 ≤ k → k ≠ 11 → k ≠ 12 → k ≠ 13 → τ' k = τ k) : rl_I σ' τ' := by
  obtain ⟨i1, i2, i3, i4, i5, i6, i7, i8, i9, i10, i11, i12, i13, i14⟩ := h
  have hm := rl_many_fr (t0 1 (by omega)) (t0 2 (by omega))
  have hl := fun b => rl_len_fr (t0 1 (by omega)) (t0 2 (by omega)) b
  refine ⟨?_, ?_, ?_, ?_, ?_, ?_, ?_, ?_, ?_, ?_, ?_, ?_, ?_, ?_⟩
  · rw [t0 15 (by omega)]; exact i1
  · rw [t0 16 (by omega), hm]; exact i2
  · rw [s1, t0 5 (by omega)]; exact i3
  · rw [t0 23 (by omega), t0 15 (by omega)]; exact i4
  · rw [t0 24 (by omega), t0 16 (by omega)]; exact i5
  · rw [t0 30 (by omega), t0 16 (by omega)]; exact i6
  · rw [t0 27 (by omega), t0 24 (by omega), t1 14 (by omega) (by omega) (by omega) (by omega), t1 15 (by omega) (by omega) (by omega) (by omega)]; exact i7
  · exact fun t ht => rl_T_fr (i8 t ht) (s2 t ht) (fun j hj => t0 j (by omega)) (fun k hk => t1 k (by omega) (by omega) (by omega) (by omega))
  · unfold rl_L at i9 ⊢
    rw [t0 33 (by omega), t1 8 (by omega) (by omega) (by omega) (by omega), t1 17 (by omega) (by omega) (by omega) (by omega), s3]; exact i9
  · rw [t0 33 (by omega), t0 31 (by omega), hl, t1 9 (by omega) (by omega) (by omega) (by omega), t1 17 (by omega) (by omega) (by omega) (by omega)]; exact i10
  · rw [t0 34 (by omega), t0 35 (by omega), t1 8 (by omega) (by omega) (by omega) (by omega)]; exact i11
  · rw [t0 31 (by omega), t0 4 (by omega), rl_sum_fr (t0 1 (by omega)) (t0 2 (by omega)) 6 (fun t _ => by rw [t1 8 (by omega) (by omega) (by omega) (by omega), t1 9 (by omega) (by omega) (by omega) (by omega)]; exact ⟨rfl, fun _ => rfl⟩)]; exact i12
  · rw [t1 16 (by omega) (by omega) (by omega) (by omega), t0 16 (by omega)]; exact i13
  · unfold rl_D; rw [t1 8 (by omega) (by omega) (by omega) (by omega), t1 9 (by omega) (by omega) (by omega) (by omega), t0 24 (by omega)]; exact i14
theorem rl_P_fr {σ τ σ' τ' : pt_St} (h : rl_P σ τ) (s1 : σ' 4 5 = σ 4 5) (s2 : σ' 4 6 = σ 4 6) (s3 : σ' 19 = σ 19) (t0 : ∀ j, (j = 1 ∨ j = 2 ∨ j = 10) → τ' 0 j = τ 0 j) (t1 : ∀ k, (k = 5 ∨ k = 6 ∨ k = 7) → τ' k = τ k) : rl_P σ' τ' := by
  unfold rl_P at h ⊢
  rw [s1, s2, s3, t0 10 (by omega), rl_many_fr (t0 1 (by omega)) (t0 2 (by omega)), t1 5 (by omega), t1 6 (by omega), t1 7 (by omega)]
  exact h
theorem rl_B_fr {τ τ' : pt_St} (h : rl_B τ) (t0 : ∀ j, (1 ≤ j ∧ j ≤ 5) ∨ j = 9 ∨ j = 14 → τ' 0 j = τ 0 j) (t1 : τ' 2 = τ 2) : rl_B τ' := by
  unfold rl_B at h ⊢
  rw [t0 1 (by omega), t0 2 (by omega), t0 3 (by omega), t0 4 (by omega), t0 5 (by omega), t0 9 (by omega), t0 14 (by omega), t1]
  exact h
theorem rl_A_fr {σ τ σ' τ' : pt_St} (h : rl_A σ τ) (s0 : ∀ k, (k = 0 ∨ k = 1 ∨ k = 2 ∨ k = 15 ∨ k = 16 ∨ k = 17 ∨ k = 18) → σ' k = σ k) (s1 : σ' 4 8 = σ 4 8) (t0 : ∀ j, (1 ≤ j ∧ j ≤ 5) ∨ j = 9 ∨ j = 14 → τ' 0 j = τ 0 j) (t1 : ∀ k, 1 ≤ k → k ≤ 4 → τ' k = τ k) : rl_A σ' τ' := by
  unfold rl_A at h ⊢
  rw [s0 0 (by omega), s0 1 (by omega), s0 2 (by omega), s0 15 (by omega), s0 16 (by omega), s0 17 (by omega), s0 18 (by omega), s1, t0 1 (by omega), t0 2 (by omega), t0 3 (by omega), t0 4 (by omega), t0 5 (by omega), t0 9 (by omega), t0 14 (by omega), t1 1 (by omega) (by omega), t1 2 (by omega) (by omega), t1 3 (by omega) (by omega), t1 4 (by omega) (by omega)]
  exact h
set_option maxHeartbeats 4000000 in
theorem sm_interrupt {σ τ : pt_St} {a1 : Int32} (h : rl_R σ τ) : ∃ (r : Int32) (σ' τ' : pt_St), f_X9_interrupt σ a1 = some (r, σ') ∧ f_X10_interrupt τ a1 = some (r, τ') ∧ rl_R σ' τ' := by
  obtain ⟨hA, hB, hE, hP, hI⟩ := id h
  obtain ⟨e1, e2, e3, e4, e5, e6, e7, e8, e9, e10, e11⟩ := id hA
  obtain ⟨b1, b2, b3, b4, b5, b6, b7, b8, b9, b10, b11, b12, b13, b14⟩ := id hB
  obtain ⟨g1, g2, g3, g4, g5, g6, g7, g8, g9, g10, g11, g12, g13, g14, g15, g16, g17, g18⟩ := id hE
  rcases rl_bg hB with hb | hb
  · have hb0 : (τ 0 14).toInt = 0 := by rw [hb, i_0]
    rcases sm_thr0 h hb a1 with ⟨h1, h2⟩ | ⟨h1, h2⟩
    · exact ⟨-3, σ, τ, by simp (disch := omega) only [f_X9_interrupt, h1, e10, pt_in, pt_iw, pt_b2, pt_b1, pt_do, ↓reduceIte, if_pos, if_neg, pt_pk, pt_row, upd_at, Nat.reduceEqDiff, ↓reduceIte, Int32.lt_iff_toInt_lt, Int32.le_iff_toInt_le, i_eq, i_cl, i_m4, i_m3, i_m2, i_m1, i_0, i_1, i_2, i_3, i_4, i_5, i_6, i_8, i_10, i_16, i_31, i_32, i_39, i_40, i_64, i_160, i_200, i_240, i_255, i_400], by simp (disch := omega) only [f_X10_interrupt, h2, pt_in, pt_iw, pt_b2, pt_b1, pt_do, ↓reduceIte, if_pos, if_neg, pt_pk, pt_row, upd_at, Nat.reduceEqDiff, ↓reduceIte, Int32.lt_iff_toInt_lt, Int32.le_iff_toInt_le, i_eq, i_cl, i_m4, i_m3, i_m2, i_m1, i_0, i_1, i_2, i_3, i_4, i_5, i_6, i_8, i_10, i_16, i_31, i_32, i_39, i_40, i_64, i_160, i_200, i_240, i_255, i_400], h⟩
    · exact ⟨-2, σ, τ, by simp (disch := omega) only [f_X9_interrupt, h1, e10, pt_in, pt_iw, pt_b2, pt_b1, pt_do, ↓reduceIte, if_pos, if_neg, pt_pk, pt_row, upd_at, Nat.reduceEqDiff, ↓reduceIte, Int32.lt_iff_toInt_lt, Int32.le_iff_toInt_le, i_eq, i_cl, i_m4, i_m3, i_m2, i_m1, i_0, i_1, i_2, i_3, i_4, i_5, i_6, i_8, i_10, i_16, i_31, i_32, i_39, i_40, i_64, i_160, i_200, i_240, i_255, i_400], by simp (disch := omega) only [f_X10_interrupt, h2, pt_in, pt_iw, pt_b2, pt_b1, pt_do, ↓reduceIte, if_pos, if_neg, pt_pk, pt_row, upd_at, Nat.reduceEqDiff, ↓reduceIte, Int32.lt_iff_toInt_lt, Int32.le_iff_toInt_le, i_eq, i_cl, i_m4, i_m3, i_m2, i_m1, i_0, i_1, i_2, i_3, i_4, i_5, i_6, i_8, i_10, i_16, i_31, i_32, i_39, i_40, i_64, i_160, i_200, i_240, i_255, i_400], h⟩
  · have hb0 : (τ 0 14).toInt = 1 := by rw [hb, i_1]
    rcases sm_thr h hb a1 with ⟨t, k1, k2, k3, k4, k5, h1, h2⟩ | ⟨h1, h2⟩
    · obtain ⟨f0, f1, f2, f3, f4, f5⟩ := g18 t k1
      have hw : f_X6_worker σ a1 = some (a1, σ) := by simp (disch := omega) only [f_X6_worker, g1, pt_in, pt_iw, pt_b2, pt_b1, pt_do, ↓reduceIte, if_pos, if_neg, pt_pk, pt_row, upd_at, Nat.reduceEqDiff, ↓reduceIte, Int32.lt_iff_toInt_lt, Int32.le_iff_toInt_le, i_eq, i_cl, i_m4, i_m3, i_m2, i_m1, i_0, i_1, i_2, i_3, i_4, i_5, i_6, i_8, i_10, i_16, i_31, i_32, i_39, i_40, i_64, i_160, i_200, i_240, i_255, i_400]
      by_cases d1 : (τ 13 t).toInt = 0
      · by_cases d2 : (τ 8 t).toInt = 4
        · exact ⟨0, σ, τ, by simp (disch := omega) only [f_X9_interrupt, f_X6_markInterrupted, hw, h1, e10, k5, f1, f5, pt_in, pt_iw, pt_b2, pt_b1, pt_do, ↓reduceIte, if_pos, if_neg, pt_pk, pt_row, upd_at, Nat.reduceEqDiff, ↓reduceIte, Int32.lt_iff_toInt_lt, Int32.le_iff_toInt_le, i_eq, i_cl, i_m4, i_m3, i_m2, i_m1, i_0, i_1, i_2, i_3, i_4, i_5, i_6, i_8, i_10, i_16, i_31, i_32, i_39, i_40, i_64, i_160, i_200, i_240, i_255, i_400], by simp (disch := omega) only [f_X10_interrupt, h2, k5, pt_in, pt_iw, pt_b2, pt_b1, pt_do, ↓reduceIte, if_pos, if_neg, pt_pk, pt_row, upd_at, Nat.reduceEqDiff, ↓reduceIte, Int32.lt_iff_toInt_lt, Int32.le_iff_toInt_le, i_eq, i_cl, i_m4, i_m3, i_m2, i_m1, i_0, i_1, i_2, i_3, i_4, i_5, i_6, i_8, i_10, i_16, i_31, i_32, i_39, i_40, i_64, i_160, i_200, i_240, i_255, i_400], h⟩
        · refine ⟨1, pt_put σ (9 + t) 7 1, pt_put τ 13 t 1, by simp (disch := omega) only [f_X9_interrupt, f_X6_markInterrupted, hw, h1, e10, k5, f1, f5, pt_in, pt_iw, pt_b2, pt_b1, pt_do, ↓reduceIte, if_pos, if_neg, pt_pk, pt_row, upd_at, Nat.reduceEqDiff, ↓reduceIte, Int32.lt_iff_toInt_lt, Int32.le_iff_toInt_le, i_eq, i_cl, i_m4, i_m3, i_m2, i_m1, i_0, i_1, i_2, i_3, i_4, i_5, i_6, i_8, i_10, i_16, i_31, i_32, i_39, i_40, i_64, i_160, i_200, i_240, i_255, i_400], by simp (disch := omega) only [f_X10_interrupt, h2, k5, i_nar1, pt_in, pt_iw, pt_b2, pt_b1, pt_do, ↓reduceIte, if_pos, if_neg, pt_pk, pt_row, upd_at, Nat.reduceEqDiff, ↓reduceIte, Int32.lt_iff_toInt_lt, Int32.le_iff_toInt_le, i_eq, i_cl, i_m4, i_m3, i_m2, i_m1, i_0, i_1, i_2, i_3, i_4, i_5, i_6, i_8, i_10, i_16, i_31, i_32, i_39, i_40, i_64, i_160, i_200, i_240, i_255, i_400], ?_⟩
          refine ⟨rl_A_fr hA (fun k hk => by rw [pt_ne (by omega)]) (by rw [pt_ne (by omega)]) (fun j hj => by rw [pt_ne (by omega)]) (fun k hk1 hk2 => by rw [pt_ne (by omega)]), rl_B_fr hB (fun j hj => by rw [pt_ne (by omega)]) (by rw [pt_ne (by omega)]), ?_, fun q => rl_P_fr (hP q) (by rw [pt_ne (by omega)]) (by rw [pt_ne (by omega)]) (by rw [pt_ne (by omega)]) (fun j hj => by rw [pt_ne (by omega)]) (fun k hk => by rw [pt_ne (by omega)]), fun q => rl_I_fr (hI q) (by rw [pt_ne (by omega)]) (fun u hu => ?_) (by rw [pt_ne (by omega)]) (fun j hj => by rw [pt_ne (by omega)]) (fun k hk1 hk2 hk3 hk4 => by rw [pt_ne (by omega)])⟩
          · unfold rl_E at hE ⊢
            simp (disch := omega) only [pt_ne]
            refine ⟨g1, g2, g3, g4, g5, g6, g7, g8, g9, g10, g11, g12, g13, g14, g15, g16, g17, fun u hu => ?_⟩
            obtain ⟨z0, z1, z2, z3, z4, z5⟩ := g18 u hu
            by_cases hut : u = t
            · subst hut
              simp (disch := omega) only [pt_nj, pt_eq]
              exact ⟨z0, z1, z2, z3, z4, trivial⟩
            · rw [pt_ne (by omega), pt_nj hut]
              exact ⟨z0, z1, z2, z3, z4, z5⟩
          · by_cases hut : u = t
            · subst hut
              simp (disch := omega) only [pt_nj]
              exact ⟨trivial, trivial⟩
            · rw [pt_ne (by omega)]; exact ⟨rfl, rfl⟩
      · exact ⟨0, σ, τ, by simp (disch := omega) only [f_X9_interrupt, f_X6_markInterrupted, hw, h1, e10, k5, f1, f5, pt_in, pt_iw, pt_b2, pt_b1, pt_do, ↓reduceIte, if_pos, if_neg, pt_pk, pt_row, upd_at, Nat.reduceEqDiff, ↓reduceIte, Int32.lt_iff_toInt_lt, Int32.le_iff_toInt_le, i_eq, i_cl, i_m4, i_m3, i_m2, i_m1, i_0, i_1, i_2, i_3, i_4, i_5, i_6, i_8, i_10, i_16, i_31, i_32, i_39, i_40, i_64, i_160, i_200, i_240, i_255, i_400], by simp (disch := omega) only [f_X10_interrupt, h2, k5, pt_in, pt_iw, pt_b2, pt_b1, pt_do, ↓reduceIte, if_pos, if_neg, pt_pk, pt_row, upd_at, Nat.reduceEqDiff, ↓reduceIte, Int32.lt_iff_toInt_lt, Int32.le_iff_toInt_le, i_eq, i_cl, i_m4, i_m3, i_m2, i_m1, i_0, i_1, i_2, i_3, i_4, i_5, i_6, i_8, i_10, i_16, i_31, i_32, i_39, i_40, i_64, i_160, i_200, i_240, i_255, i_400], h⟩
    · exact ⟨-2, σ, τ, by simp (disch := omega) only [f_X9_interrupt, h1, e10, pt_in, pt_iw, pt_b2, pt_b1, pt_do, ↓reduceIte, if_pos, if_neg, pt_pk, pt_row, upd_at, Nat.reduceEqDiff, ↓reduceIte, Int32.lt_iff_toInt_lt, Int32.le_iff_toInt_le, i_eq, i_cl, i_m4, i_m3, i_m2, i_m1, i_0, i_1, i_2, i_3, i_4, i_5, i_6, i_8, i_10, i_16, i_31, i_32, i_39, i_40, i_64, i_160, i_200, i_240, i_255, i_400], by simp (disch := omega) only [f_X10_interrupt, h2, pt_in, pt_iw, pt_b2, pt_b1, pt_do, ↓reduceIte, if_pos, if_neg, pt_pk, pt_row, upd_at, Nat.reduceEqDiff, ↓reduceIte, Int32.lt_iff_toInt_lt, Int32.le_iff_toInt_le, i_eq, i_cl, i_m4, i_m3, i_m2, i_m1, i_0, i_1, i_2, i_3, i_4, i_5, i_6, i_8, i_10, i_16, i_31, i_32, i_39, i_40, i_64, i_160, i_200, i_240, i_255, i_400], h⟩
/-- all plants of the class go -/
theorem cl_rem (k : pt_St → Int32 → Option pt_St) : ∀ (m i n : Nat) (σ : pt_St), i + m = 40 → m < n → ∃ σ', lp_X3_removeAll_2 k n σ (nI i) = k σ' 40 ∧ (∀ c, c ≠ 17 → σ' c = σ c) ∧ (∀ j, σ' 17 j = if i ≤ j ∧ j < 40 then 0 else σ 17 j) := by
  intro m
  induction m with
  | zero =>
    intro i n σ hi hn
    obtain ⟨n, rfl⟩ : ∃ z, n = z + 1 := ⟨n - 1, by omega⟩
    have q : (nI i).toInt = (i : Int) := i_nI (by omega)
    have q2 : nI i = 40 := by rw [i_eq, q, i_40]; omega
    refine ⟨σ, ?_, fun c _ => rfl, fun j => ?_⟩
    · rw [lp_X3_removeAll_2]
      simp (disch := omega) only [pt_in, pt_iw, pt_b2, pt_b1, pt_do, ↓reduceIte, if_pos, if_neg, pt_pk, pt_row, upd_at, Nat.reduceEqDiff, ↓reduceIte, Int32.lt_iff_toInt_lt, Int32.le_iff_toInt_le, i_eq, i_cl, i_m4, i_m3, i_m2, i_m1, i_0, i_1, i_2, i_3, i_4, i_5, i_6, i_8, i_10, i_16, i_31, i_32, i_39, i_40, i_64, i_160, i_200, i_240, i_255, i_400, q]
      rw [q2]
    · rw [if_neg (by omega)]
  | succ m ih =>
    intro i n σ hi hn
    obtain ⟨n, rfl⟩ : ∃ z, n = z + 1 := ⟨n - 1, by omega⟩
    have q : (nI i).toInt = (i : Int) := i_nI (by omega)
    obtain ⟨σ', h1, h2, h3⟩ := ih (i + 1) n (pt_put σ 17 i 0) (by omega) (by omega)
    refine ⟨σ', ?_, fun c hc => by rw [h2 c hc, pt_ne hc], fun j => ?_⟩
    · rw [lp_X3_removeAll_2]
      have q3 : nI i + 1 = nI (i + 1) := nI_1 i
      have q4 : (nI i).toInt.toNat = i := by omega
      simp (disch := omega) only [pt_in, pt_b2, pt_b1, pt_do, ↓reduceIte, if_pos, if_neg, Int32.lt_iff_toInt_lt, Int32.le_iff_toInt_le, i_cl, i_0, i_40, q, q4, q3]
      exact h1
    · rw [h3 j]
      by_cases hj : j = i
      · subst hj
        rw [if_neg (by omega), if_pos (by omega), pt_eq]
      · rw [pt_nj hj]
        by_cases hj2 : i ≤ j ∧ j < 40
        · rw [if_pos hj2, if_pos (by omega)]
        · rw [if_neg hj2, if_neg (by omega)]
