theorem rl_many_nat {τ : pt_St} {s z : Nat} (h1 : τ 0 1 = nI s) (h2 : τ 0 2 = nI z) (hs : s ≤ 160) (hz : 4 ≤ z) (hz2 : z ≤ 32) : rl_many τ = (((s + z - 1) / z : Nat) : Int) := by
  unfold rl_many
  rw [h1, h2, i_nI (by omega), i_nI (by omega), Int.natCast_ediv]
  congr 1
  omega
set_option maxHeartbeats 4000000 in
theorem mk_ok {σ τ : pt_St} (h : rl_R σ τ) : ∃ (σ' τ' : pt_St), f_X2_make σ = some σ' ∧ f_X10_packAll τ = some τ' ∧ rl_R σ' τ' ∧ τ' 0 9 = 1 ∧ τ' 0 14 = τ 0 14 ∧ (τ 0 14 = 1 → σ' = σ ∧ τ' = τ) := by
  obtain ⟨hA, hB, hE, hP, hI⟩ := id h
  obtain ⟨e1, e2, e3, e4, e5, e6, e7, e8, e9, e10, e11⟩ := id hA
  obtain ⟨b1, b2, b3, b4, b5, b6, b7, b8, b9, b10, b11, b12, b13, b14⟩ := id hB
  obtain ⟨g1, g2, g3, g4, g5, g6, g7, g8, g9, g10, g11, g12, g13, g14, g15, g16, g17, g18⟩ := id hE
  rcases b13 with b13 | b13
  · have hb : τ 0 14 = 0 := by
      rcases b12 with b12 | b12
      · exact b12
      · have := b14 b12; rw [b13] at this; exact absurd this (by decide)
    obtain ⟨s, hs, hs2⟩ : ∃ s : Nat, τ 0 1 = nI s ∧ s ≤ 160 := ⟨(τ 0 1).toInt.toNat, i_of b1, by omega⟩
    obtain ⟨z, hz, hz1, hz2⟩ : ∃ z : Nat, τ 0 2 = nI z ∧ 4 ≤ z ∧ z ≤ 32 := ⟨(τ 0 2).toInt.toNat, i_of (by omega), by omega, by omega⟩
    obtain ⟨w, hw, hw2⟩ : ∃ w : Nat, τ 0 3 = nI w ∧ w ≤ 64 := ⟨(τ 0 3).toInt.toNat, i_of b5, by omega⟩
    have hnb := blk_le hs2 hz1
    have hM0 : pk_M (pt_put (pt_put σ 4 5 0) 4 6 (nI ((s + z - 1) / z))) (pt_put (pt_put τ 0 9 1) 0 10 0) (pt_put (pt_put σ 4 5 0) 4 6 (nI ((s + z - 1) / z))) (pt_put (pt_put τ 0 9 1) 0 10 0) s z 0 0 := by
      refine ⟨fun _ _ _ _ _ => rfl, fun _ _ _ => rfl, by rw [pt_nj (by omega), pt_eq]; rfl, fun i hi => absurd hi (by omega), fun _ _ _ _ _ => rfl, fun _ _ => rfl, by rw [pt_eq]; rfl, ?_, ?_, Nat.zero_le _, fun d hd => absurd hd (by omega)⟩
      · simp (disch := omega) only [pt_ne]; exact g16
      · simp (disch := omega) only [pt_ne]; exact g17
    obtain ⟨σ1, τ1, P, v1, v2, m1, m2, m3, m4, m5, m6, m7, m8, m9, m10, m11⟩ := make_lp (σ0 := pt_put (pt_put σ 4 5 0) 4 6 (nI ((s + z - 1) / z))) (τ0 := pt_put (pt_put τ 0 9 1) 0 10 0) (s := s) (w := w) (z := z) (by simp (disch := omega) only [pt_ne]; rw [e1, hs]) (by simp (disch := omega) only [pt_nj]; exact hs) hs2 (by simp (disch := omega) only [pt_ne]; rw [e4, hw]) (by simp (disch := omega) only [pt_nj]; exact hw) hw2 (by simp (disch := omega) only [pt_ne]; rw [e3, hz]) (by simp (disch := omega) only [pt_nj]; exact hz) hz1 hz2 (by simp (disch := omega) only [pt_ne]; exact e2) pt_eq (kC := kx_X2_make_23) (kR := kx_X10_packAll_20) ((s + z - 1) / z) 0 0 pt_F pt_F _ _ (by omega) hM0 (by unfold pt_F; omega) (by unfold pt_F; omega)
    have hP : P ≤ 240 := by have : min ((s + z - 1) / z * z) s ≤ s := Nat.min_le_right _ _; omega
    have qP : (nI P).toInt = (P : Int) := i_nI (by omega)
    have t01 : τ1 0 1 = τ 0 1 := by rw [m6 1 (by omega)]; simp (disch := omega) only [pt_nj]
    have t02 : τ1 0 2 = τ 0 2 := by rw [m6 2 (by omega)]; simp (disch := omega) only [pt_nj]
    have hmn : rl_many τ1 = (((s + z - 1) / z : Nat) : Int) := rl_many_nat (by rw [t01, hs]) (by rw [t02, hz]) hs2 hz1 hz2
    have t09 : τ1 0 9 = 1 := by rw [m6 9 (by omega), pt_nj (by omega), pt_eq]
    have t0j : ∀ j, j ≠ 9 → j ≠ 10 → τ1 0 j = τ 0 j := fun j q1 q2 => by rw [m6 j q2, pt_nj q2, pt_nj q1]
    have tk : ∀ k, k ≠ 0 → k ≠ 5 → k ≠ 6 → k ≠ 7 → τ1 k = τ k := fun k q0 q5 q6 q7 => by rw [m5 k q0 q5 q6 q7, pt_ne q0, pt_ne q0]
    have sk : ∀ k, k ≠ 4 → k ≠ 19 → k ≠ 20 → k ≠ 21 → σ1 k = σ k := fun k q0 q5 q6 q7 => by rw [m1 k q0 q5 q6 q7, pt_ne q0, pt_ne q0]
    refine ⟨pt_put σ1 4 8 1, τ1, ?_, ?_, ⟨?_, ?_, ?_, fun _ => ?_, fun q => ?_⟩, t09, t0j 14 (by omega) (by omega), fun q => ?_⟩
    · have q8 : σ 4 8 = 0 := by rw [e11, b13]
      rw [f_X2_make, if_pos q8, pt_doe, many_C (s := s) (z := z) (by rw [pt_ne (by omega), e1, hs]) (by rw [pt_ne (by omega), e3, hz]) hs2 hz1 hz2, pt_b2e, pt_doe, show (0 : Int32) = nI 0 from rfl]
      have v1' : lp_X2_make_23 kx_X2_make_23 pt_F (pt_put (pt_put σ 4 5 (nI 0)) 4 6 (nI ((s + z - 1) / z))) (nI 0) = _ := v1
      rw [v1', kx_X2_make_23, pt_doe]
    · rw [f_X10_packAll, if_pos b13, pt_doe, pt_doe, show (0 : Int32) = nI 0 from rfl]
      have v2' : lp_X10_packAll_20 kx_X10_packAll_20 pt_F (pt_put (pt_put τ 0 9 1) 0 10 (nI 0)) (nI 0) = _ := v2
      rw [v2', kx_X10_packAll_20]
    · unfold rl_A
      simp (disch := omega) only [pt_ne, pt_eq, sk, t0j, tk, t09]
      exact ⟨e1, e2, e3, e4, e5, e6, e7, e8, e9, e10, trivial⟩
    · unfold rl_B
      rw [t0j 1 (by omega) (by omega), t0j 2 (by omega) (by omega), t0j 3 (by omega) (by omega), t0j 4 (by omega) (by omega), t0j 5 (by omega) (by omega), t0j 14 (by omega) (by omega), t09, tk 2 (by omega) (by omega) (by omega) (by omega)]
      exact ⟨b1, b2, b3, b4, b5, b6, b7, b8, b9, b10, b11, b12, Or.inr rfl, fun _ => rfl⟩
    · unfold rl_E
      simp (disch := omega) only [pt_ne, sk, t0j, tk]
      refine ⟨g1, g2, g3, g4, g5, g6, g7, g8, g9, g10, g11, g12, g13, g14, g15, m8, m9, fun t ht => ?_⟩
      simp (disch := omega) only [pt_ne, sk]
      exact g18 t ht
    · unfold rl_P
      rw [hmn, m7, qP, pt_nj (by omega), pt_nj (by omega), pt_ne (by omega), m3, m2 6 (by omega) (by omega), pt_eq]
      refine ⟨rfl, by omega, by omega, fun i hi => m4 i (by omega), i_nI (by omega), fun b hb => ?_⟩
      exact m11 b (by omega)
    · rw [t0j 14 (by omega) (by omega), hb] at q
      exact absurd q (by decide)
    · rw [hb] at q
      exact absurd q (by decide)
  · exact ⟨σ, τ, by
      have : ¬ (1 : Int32) = 0 := by decide
      rw [f_X2_make, e11, b13, if_neg this], by
      have : ¬ (1 : Int32) = 0 := by decide
      rw [f_X10_packAll, b13, if_neg this], h, b13, rfl, fun _ => ⟨rfl, rfl⟩⟩
set_option maxHeartbeats 4000000 in
theorem sm_plain {σ τ : pt_St} {a1 : Int32} (h : rl_R σ τ) : ∃ (r : Int32) (σ' τ' : pt_St), f_X9_plain σ a1 = some (r, σ') ∧ f_X10_plain τ a1 = some (r, τ') ∧ rl_R σ' τ' := by
  obtain ⟨σ1, τ1, h1, h2, h3, h4, -⟩ := mk_ok h
  obtain ⟨p1, p2, p3, p4, p5, p6⟩ := h3.2.2.2.1 h4
  have q := i_pred (τ1 0 10) p2
  by_cases c : 0 ≤ a1.toInt ∧ a1.toInt < (τ1 0 10).toInt
  · have q4 := p4 a1.toInt.toNat (by omega)
    exact ⟨τ1 5 a1.toInt.toNat, σ1, τ1, by simp (disch := omega) only [f_X9_plain, h1, f_X2_byteAt, p1, q4, pt_in, pt_iw, pt_b2, pt_b1, pt_do, ↓reduceIte, if_pos, if_neg, pt_pk, pt_row, upd_at, Nat.reduceEqDiff, ↓reduceIte, Int32.lt_iff_toInt_lt, Int32.le_iff_toInt_le, i_eq, i_cl, i_m4, i_m3, i_m2, i_m1, i_0, i_1, i_2, i_3, i_4, i_5, i_6, i_8, i_10, i_16, i_31, i_32, i_39, i_40, i_64, i_160, i_200, i_240, i_255, i_400], by simp (disch := omega) only [f_X10_plain, h2, f_X10_in, q, pt_in, pt_iw, pt_b2, pt_b1, pt_do, ↓reduceIte, if_pos, if_neg, pt_pk, pt_row, upd_at, Nat.reduceEqDiff, ↓reduceIte, Int32.lt_iff_toInt_lt, Int32.le_iff_toInt_le, i_eq, i_cl, i_m4, i_m3, i_m2, i_m1, i_0, i_1, i_2, i_3, i_4, i_5, i_6, i_8, i_10, i_16, i_31, i_32, i_39, i_40, i_64, i_160, i_200, i_240, i_255, i_400], h3⟩
  · refine ⟨-1, σ1, τ1, ?_, ?_, h3⟩
    · by_cases d : a1.toInt < 0 <;> simp (disch := omega) only [f_X9_plain, h1, f_X2_byteAt, p1, pt_in, pt_iw, pt_b2, pt_b1, pt_do, ↓reduceIte, if_pos, if_neg, pt_pk, pt_row, upd_at, Nat.reduceEqDiff, ↓reduceIte, Int32.lt_iff_toInt_lt, Int32.le_iff_toInt_le, i_eq, i_cl, i_m4, i_m3, i_m2, i_m1, i_0, i_1, i_2, i_3, i_4, i_5, i_6, i_8, i_10, i_16, i_31, i_32, i_39, i_40, i_64, i_160, i_200, i_240, i_255, i_400]
    · by_cases d : a1.toInt < 0 <;> simp (disch := omega) only [f_X10_plain, h2, f_X10_in, q, pt_in, pt_iw, pt_b2, pt_b1, pt_do, ↓reduceIte, if_pos, if_neg, pt_pk, pt_row, upd_at, Nat.reduceEqDiff, ↓reduceIte, Int32.lt_iff_toInt_lt, Int32.le_iff_toInt_le, i_eq, i_cl, i_m4, i_m3, i_m2, i_m1, i_0, i_1, i_2, i_3, i_4, i_5, i_6, i_8, i_10, i_16, i_31, i_32, i_39, i_40, i_64, i_160, i_200, i_240, i_255, i_400]
