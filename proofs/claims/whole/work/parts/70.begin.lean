theorem rl_cnt_nn (f : Nat → Int32) : ∀ n, 0 ≤ rl_cnt f n
  | 0 => Int.le_refl 0
  | n + 1 => by
    have := rl_cnt_nn f n
    unfold rl_cnt
    split <;> omega
theorem row_ok (σ : pt_St) (a1 : Int32) : ∃ σ', f_X4_renew σ a1 = some σ' ∧ (∀ c, c ≠ 7 → c ≠ 24 → σ' c = σ c) ∧ (∀ j, σ' 24 j = if j < 40 then 0 else σ 24 j) ∧ σ' 7 1 = 0 ∧ σ' 7 2 = a1 ∧ σ' 7 3 = 0 := by
  obtain ⟨σ1, h1, h2, h3⟩ := cl_row (kx_X4_renew_2 a1) a1 40 0 pt_F σ (by omega) (by unfold pt_F; omega)
  refine ⟨pt_put (pt_put (pt_put σ1 7 1 0) 7 2 a1) 7 3 0, ?_, fun c c7 c24 => ?_, fun j => ?_, ?_, ?_, pt_eq⟩
  · rw [f_X4_renew, show (0 : Int32) = nI 0 from rfl, h1, kx_X4_renew_2, pt_doe, pt_doe, pt_doe]; rfl
  · rw [pt_ne c7, pt_ne c7, pt_ne c7, h2 c c24]
  · rw [pt_ne (by omega), pt_ne (by omega), pt_ne (by omega), h3 j]
    by_cases c : j < 40
    · rw [if_pos c, if_pos ⟨by omega, c⟩]
    · rw [if_neg c, if_neg (by omega)]
  · rw [pt_nj (by omega), pt_nj (by omega), pt_eq]
  · rw [pt_nj (by omega), pt_eq]
theorem fail_ok (σ : pt_St) : ∃ σ', f_X0_renew σ = some σ' ∧ (∀ c, c ≠ 8 → c ≠ 25 → σ' c = σ c) ∧ (∀ j, σ' 25 j = if j < 40 then 0 else σ 25 j) ∧ σ' 8 2 = 0 := by
  obtain ⟨σ1, h1, h2, h3⟩ := cl_fail kx_X0_renew_2 40 0 pt_F σ (by omega) (by unfold pt_F; omega)
  refine ⟨pt_put σ1 8 2 0, ?_, fun c c7 c24 => ?_, fun j => ?_, pt_eq⟩
  · rw [f_X0_renew, show (0 : Int32) = nI 0 from rfl, h1, kx_X0_renew_2, pt_doe]; rfl
  · rw [pt_ne c7, h2 c c24]
  · rw [pt_ne (by omega), h3 j]
    by_cases c : j < 40
    · rw [if_pos c, if_pos ⟨by omega, c⟩]
    · rw [if_neg c, if_neg (by omega)]
set_option maxHeartbeats 4000000 in
theorem start_ok (σ : pt_St) (a1 a2 a3 : Int32) : ∃ σ', f_X6_start σ a1 a2 a3 = some σ' ∧ (∀ c, c < 5 ∨ (15 ≤ c ∧ c ≤ 23) ∨ 26 ≤ c → σ' c = σ c) ∧ σ' 5 6 = a1 ∧ σ' 5 7 = -1 ∧ σ' 5 8 = 0 ∧ σ' 5 9 = -1 ∧ σ' 5 10 = 0 ∧ σ' 5 11 = 0 ∧ σ' 5 12 = 0 ∧ σ' 6 1 = 0 ∧ σ' 6 2 = a2 ∧ σ' 7 1 = 0 ∧ σ' 7 2 = a3 ∧ σ' 7 3 = 0 ∧ σ' 8 2 = 0 ∧ (∀ j, σ' 24 j = if j < 40 then 0 else σ 24 j) ∧ (∀ j, σ' 25 j = if j < 40 then 0 else σ 25 j) ∧
    (∀ j, j < 6 → σ' (9 + j) 0 = σ (9 + j) 0 ∧ σ' (9 + j) 1 = 0 ∧ σ' (9 + j) 2 = -1 ∧ σ' (9 + j) 3 = -1 ∧ σ' (9 + j) 4 = 0 ∧ σ' (9 + j) 5 = 0 ∧ σ' (9 + j) 6 = 0 ∧ σ' (9 + j) 7 = 0) := by
  obtain ⟨σ1, h1, h2, h3⟩ := cl_b6 (kx_X6_start_8 a1 a2 a3) a1 a2 a3 6 0 pt_F (pt_put σ 5 6 a1) (by omega) (by unfold pt_F; omega)
  obtain ⟨σ2, r1, r2, r3, r4, r5, r6⟩ := row_ok (pt_put (pt_put σ1 6 2 a2) 6 1 0) a3
  obtain ⟨σ3, f1, f2, f3, f4⟩ := fail_ok σ2
  refine ⟨_, by
    rw [f_X6_start, pt_doe, show (0 : Int32) = nI 0 from rfl, h1, kx_X6_start_8, f_X1_fill, pt_doe, pt_doe, pt_b1e, r1, pt_b1e, f1, pt_b1e, pt_doe, pt_doe, pt_doe, pt_doe, pt_doe, pt_doe], ?_, ?_, ?_, ?_, ?_, ?_, ?_, ?_, ?_, ?_, ?_, ?_, ?_, ?_, ?_, ?_, ?_⟩
  · intro c hc
    simp (disch := omega) only [pt_ne]
    rw [f2 c (by omega) (by omega), r2 c (by omega) (by omega), pt_ne (by omega), pt_ne (by omega), h2 c (by omega), pt_ne (by omega)]
  · simp (disch := omega) only [pt_ne, pt_nj, pt_eq]
    rw [f2 5 (by omega) (by omega), r2 5 (by omega) (by omega), pt_ne (by omega), pt_ne (by omega), h2 5 (by omega), pt_eq]
  · simp (disch := omega) only [pt_nj, pt_eq]
  · simp (disch := omega) only [pt_nj, pt_eq]
  · simp (disch := omega) only [pt_nj, pt_eq]
  · simp (disch := omega) only [pt_nj, pt_eq]
  · simp (disch := omega) only [pt_nj, pt_eq]
  · simp (disch := omega) only [pt_nj, pt_eq]
  · simp (disch := omega) only [pt_ne]
    rw [f2 6 (by omega) (by omega), r2 6 (by omega) (by omega), pt_eq]
  · simp (disch := omega) only [pt_ne]
    rw [f2 6 (by omega) (by omega), r2 6 (by omega) (by omega), pt_nj (by omega), pt_eq]
  · simp (disch := omega) only [pt_ne]
    rw [f2 7 (by omega) (by omega), r4]
  · simp (disch := omega) only [pt_ne]
    rw [f2 7 (by omega) (by omega), r5]
  · simp (disch := omega) only [pt_ne]
    rw [f2 7 (by omega) (by omega), r6]
  · simp (disch := omega) only [pt_ne]
    rw [f4]
  · intro j
    simp (disch := omega) only [pt_ne]
    rw [f2 24 (by omega) (by omega), r3 j, pt_ne (by omega), pt_ne (by omega), h2 24 (by omega), pt_ne (by omega)]
  · intro j
    simp (disch := omega) only [pt_ne]
    rw [f3 j, r2 25 (by omega) (by omega), pt_ne (by omega), pt_ne (by omega), h2 25 (by omega), pt_ne (by omega)]
  · intro j hj
    simp (disch := omega) only [pt_ne]
    rw [f2 (9 + j) (by omega) (by omega), r2 (9 + j) (by omega) (by omega), pt_ne (by omega), pt_ne (by omega)]
    have := h3 j (by omega) hj
    rw [pt_ne (by omega)] at this
    exact this
set_option maxHeartbeats 4000000 in
theorem sm_begin {σ τ : pt_St} {a1 : Int32} (h : rl_R σ τ) : ∃ (r : Int32) (σ' τ' : pt_St), f_X9_begin σ a1 = some (r, σ') ∧ f_X10_begin τ a1 = some (r, τ') ∧ rl_R σ' τ' := by
  have e10 : σ 0 5 = τ 0 14 := h.1.2.2.2.2.2.2.2.2.2.1
  by_cases c : 1 ≤ a1.toInt ∧ a1.toInt ≤ 6
  · rcases rl_bg h.2.1 with hb | hb
    · have hb0 : (τ 0 14).toInt = 0 := by rw [hb, i_0]
      obtain ⟨σ1, τ1, h1, h2, h3, h4, h5, -⟩ := mk_ok h
      obtain ⟨hA, hB, hE, hP, hI⟩ := h3
      obtain ⟨e1, e2, e3, e4, e5, e6, e7, e8, e9, e10', e11⟩ := id hA
      obtain ⟨b1, b2, b3, b4, b5, b6, b7, b8, b9, b10, b11, b12, b13, b14⟩ := id hB
      obtain ⟨g1, g2, g3, g4, g5, g6, g7, g8, g9, g10, g11, g12, g13, g14, g15, g16, g17, g18⟩ := id hE
      obtain ⟨p1, p2, p3, p4, p5, p6⟩ := hP h4
      obtain ⟨s, hs, hs2⟩ : ∃ s : Nat, τ1 0 1 = nI s ∧ s ≤ 160 := ⟨(τ1 0 1).toInt.toNat, i_of b1, by omega⟩
      obtain ⟨z, hz, hz1, hz2⟩ : ∃ z : Nat, τ1 0 2 = nI z ∧ 4 ≤ z ∧ z ≤ 32 := ⟨(τ1 0 2).toInt.toNat, i_of (by omega), by omega, by omega⟩
      have hnb := blk_le hs2 hz1
      have hmn := rl_many_nat hs hz hs2 hz1 hz2
      have e46 : σ1 4 6 = nI ((s + z - 1) / z) := by rw [i_eq, p5, hmn, i_nI (by omega)]
      obtain ⟨σ2, s1, s2, s3, s4, s5, s6, s7, s8, s9, s10, s11, s12, s13, s14, s15, s16, s17, s18⟩ := start_ok σ1 a1 (σ1 2 2) (σ1 2 3)
      obtain ⟨τ2, t1, t2, t3, t4⟩ := rf_b6 (kx_X10_begin_47 a1) a1 6 0 pt_F (pt_put (pt_put (pt_put τ1 0 14 1) 0 15 a1) 0 16 (nI ((s + z - 1) / z))) (by omega) (by unfold pt_F; omega)
      obtain ⟨τ3, u1, u2, u3, u4⟩ := rf_b40 (kx_X10_begin_103 a1) a1 40 0 pt_F τ2 (by omega) (by unfold pt_F; omega)
      obtain ⟨τ4, hτ4⟩ : ∃ x, x = pt_put (pt_put (pt_put (pt_put (pt_put (pt_put (pt_put (pt_put (pt_put (pt_put (pt_put τ3 0 23 (-1)) 0 24 0) 0 27 0) 0 29 0) 0 30 0) 0 31 (τ1 0 4)) 0 33 0) 0 34 (-1)) 0 35 0) 0 36 0) 0 37 0 := ⟨_, rfl⟩
      have t0 : τ3 0 = pt_put (pt_put (pt_put τ1 0 14 1) 0 15 a1) 0 16 (nI ((s + z - 1) / z)) 0 := by rw [u2 0 (by omega) (by omega), t2 0 (by omega)]
      have z4 : τ3 0 4 = τ1 0 4 := by rw [t0]; simp (disch := omega) only [pt_nj]
      have tk : ∀ k, 1 ≤ k → k ≤ 7 ∨ k = 15 ∨ 17 ≤ k → τ4 k = τ1 k := fun k q1 q2 => by
        rw [hτ4]; simp (disch := omega) only [pt_ne]; rw [u2 k (by omega) (by omega), t2 k (by omega)]; simp (disch := omega) only [pt_ne]
      have tj : ∀ j, j ≤ 13 → τ4 0 j = τ1 0 j := fun j q => by
        rw [hτ4]; simp (disch := omega) only [pt_nj]; rw [t0]; simp (disch := omega) only [pt_nj]
      have r14 : τ4 0 14 = 1 := by rw [hτ4]; simp (disch := omega) only [pt_nj]; rw [t0]; simp (disch := omega) only [pt_nj, pt_eq]
      have r15 : τ4 0 15 = a1 := by rw [hτ4]; simp (disch := omega) only [pt_nj]; rw [t0]; simp (disch := omega) only [pt_nj, pt_eq]
      have r16 : τ4 0 16 = nI ((s + z - 1) / z) := by rw [hτ4]; simp (disch := omega) only [pt_nj]; rw [t0, pt_eq]
      have r23 : τ4 0 23 = -1 := by rw [hτ4]; simp (disch := omega) only [pt_nj, pt_eq]
      have r24 : τ4 0 24 = 0 := by rw [hτ4]; simp (disch := omega) only [pt_nj, pt_eq]
      have r27 : τ4 0 27 = 0 := by rw [hτ4]; simp (disch := omega) only [pt_nj, pt_eq]
      have r29 : τ4 0 29 = 0 := by rw [hτ4]; simp (disch := omega) only [pt_nj, pt_eq]
      have r30 : τ4 0 30 = 0 := by rw [hτ4]; simp (disch := omega) only [pt_nj, pt_eq]
      have r31 : τ4 0 31 = τ1 0 4 := by rw [hτ4]; simp (disch := omega) only [pt_nj, pt_eq]
      have r33 : τ4 0 33 = 0 := by rw [hτ4]; simp (disch := omega) only [pt_nj, pt_eq]
      have r34 : τ4 0 34 = -1 := by rw [hτ4]; simp (disch := omega) only [pt_nj, pt_eq]
      have r35 : τ4 0 35 = 0 := by rw [hτ4]; simp (disch := omega) only [pt_nj, pt_eq]
      have r36 : τ4 0 36 = 0 := by rw [hτ4]; simp (disch := omega) only [pt_nj, pt_eq]
      have r37 : τ4 0 37 = 0 := by rw [hτ4]; simp (disch := omega) only [pt_nj, pt_eq]
      have rt : ∀ t, t < 6 → τ4 8 t = 0 ∧ τ4 9 t = -1 ∧ τ4 11 t = 0 ∧ τ4 12 t = 0 ∧ τ4 13 t = 0 := fun t ht => by
        rw [hτ4]; simp (disch := omega) only [pt_ne]
        rw [u2 8 (by omega) (by omega), u2 9 (by omega) (by omega), u2 11 (by omega) (by omega), u2 12 (by omega) (by omega), u2 13 (by omega) (by omega)]
        obtain ⟨q1, q2, q3, q4, q5, q6⟩ := t3 t (by omega) ht
        exact ⟨q1, q2, q4, q5, q6⟩
      have r14f : ∀ j, τ4 14 j = if j < 40 then 0 else τ1 14 j := fun j => by
        rw [hτ4]; simp (disch := omega) only [pt_ne]
        rw [u3 j, t2 14 (by omega)]; simp (disch := omega) only [pt_ne]
        by_cases q : j < 40
        · rw [if_pos ⟨by omega, q⟩, if_pos q]
        · rw [if_neg (by omega), if_neg q]
      have r16f : ∀ j, τ4 16 j = if j < 40 then 0 else τ1 16 j := fun j => by
        rw [hτ4]; simp (disch := omega) only [pt_ne]
        rw [u4 j, t2 16 (by omega)]; simp (disch := omega) only [pt_ne]
        by_cases q : j < 40
        · rw [if_pos ⟨by omega, q⟩, if_pos q]
        · rw [if_neg (by omega), if_neg q]
      have hm4 : rl_many τ4 = rl_many τ1 := rl_many_fr (tj 1 (by omega)) (tj 2 (by omega))
      refine ⟨nI ((s + z - 1) / z), pt_put σ2 0 5 1, τ4, ?_, ?_, ?_⟩
      · rw [f_X9_begin, if_neg (by rw [Int32.lt_iff_toInt_lt, i_1]; omega), if_pos (by rw [Int32.le_iff_toInt_le, i_6]; omega), if_pos (by rw [e10, hb]), h1, pt_b1e, f_X5_cells, pt_b2e, f_X5_rowLimit, pt_b2e, s1, pt_b1e, pt_doe, f_X2_blocks, pt_b2e, pt_ne (by omega), s2 4 (by omega), e46]
      · rw [f_X10_begin, f_X10_in, if_neg (by rw [Int32.lt_iff_toInt_lt, i_1]; omega), if_neg (by rw [Int32.lt_iff_toInt_lt, i_6]; omega), pt_b2e, if_neg (by decide), if_pos hb, h2, pt_b1e, pt_doe, pt_doe, many_R (s := s) (z := z) (by simp (disch := omega) only [pt_nj]; exact hs) (by simp (disch := omega) only [pt_nj]; exact hz) hs2 hz1 hz2, pt_b2e, pt_doe, show (0 : Int32) = nI 0 from rfl, t1, kx_X10_begin_47, show (0 : Int32) = nI 0 from rfl, u1, kx_X10_begin_103]
        simp only [pt_doe]
        rw [show pt_put (pt_put (pt_put (pt_put (pt_put τ3 0 23 (-1)) 0 24 0) 0 27 0) 0 29 0) 0 30 0 0 4 = τ1 0 4 by simp (disch := omega) only [pt_nj]; exact z4]
        rw [← hτ4, r16]
      · refine ⟨?_, ?_, ?_, fun _ => ?_, fun _ => ?_⟩
        · unfold rl_A
          simp (disch := omega) only [pt_ne, pt_eq, s2, tj, tk, r14]
          exact ⟨e1, e2, e3, e4, e5, e6, e7, e8, e9, trivial, e11⟩
        · unfold rl_B
          simp (disch := omega) only [tj, tk, r14]
          exact ⟨b1, b2, b3, b4, b5, b6, b7, b8, b9, b10, b11, by simp, b13, fun _ => h4⟩
        · refine ⟨by rw [pt_ne (by omega), s3, r15], by rw [pt_ne (by omega), s4, r23], by rw [pt_ne (by omega), s5, r24], by rw [pt_ne (by omega), s6, r34], by rw [pt_ne (by omega), s7, r35], by rw [pt_ne (by omega), s8, r36], by rw [pt_ne (by omega), s9, r37], by rw [pt_ne (by omega), s10, r33], by rw [pt_ne (by omega), s11, r31, e5], by rw [pt_ne (by omega), s12, r29], by rw [pt_ne (by omega), s14, r30], by rw [pt_ne (by omega), s15, r27], ?_, ?_, by rw [pt_ne (by omega), s2 26 (by omega), tk 15 (by omega) (by omega), g15], by rw [pt_ne (by omega), s2 20 (by omega), tk 6 (by omega) (by omega), g16], by rw [pt_ne (by omega), s2 21 (by omega), tk 7 (by omega) (by omega), g17], fun t ht => ?_⟩
          · funext j
            rw [pt_ne (by omega), s16 j, r16f j, g13]
          · funext j
            rw [pt_ne (by omega), s17 j, r14f j, g14]
          · obtain ⟨q1, q2, q3, q4, q5⟩ := rt t ht
            obtain ⟨y0, y1, y2, y3, y4, y5, y6, y7⟩ := s18 t ht
            rw [pt_ne (by omega), q1, q2, q3, q4, q5]
            exact ⟨by rw [y0]; exact (g18 t ht).1, y1, y2, y5, y6, y7⟩
        · exact rl_P_fr (hP h4) (by rw [pt_ne (by omega), s2 4 (by omega)]) (by rw [pt_ne (by omega), s2 4 (by omega)]) (by rw [pt_ne (by omega), s2 19 (by omega)]) (fun j hj => tj j (by omega)) (fun k hk => tk k (by omega) (by omega))
        · have q16 : (τ4 0 16).toInt = (((s + z - 1) / z : Nat) : Int) := by rw [r16, i_nI (by omega)]
          have hq0 : 0 ≤ (τ4 0 16).toInt := by rw [q16]; exact Int.natCast_nonneg _
          have st0 : ∀ t, t < 6 → τ4 8 t = 0 := fun t ht => (rt t ht).1
          have n01 : ¬ (0 : Int32) = 1 := by decide
          have n02 : ¬ (0 : Int32) = 2 := by decide
          refine ⟨by rw [r15]; exact c, by rw [q16, hm4, hmn], by rw [pt_ne (by omega), s13, tj 5 (by omega), e6], by rw [r23, r15, i_m1]; omega, by rw [r24, i_0]; exact ⟨Int.le_refl 0, hq0⟩, by rw [r30, i_0]; exact ⟨Int.le_refl 0, hq0⟩, ?_, fun t ht => ?_, ?_, ?_, Or.inl ⟨r34, r35⟩, ?_, fun b hb1 hb2 => ?_, ?_⟩
          · rw [r27, i_0]
            exact ⟨by omega, rl_cnt_nn _ _, fun j _ hj40 => by rw [r14f j, if_pos hj40], fun i hi => absurd hi (by omega)⟩
          · obtain ⟨q1, q2, q3, q4, q5⟩ := rt t ht
            obtain ⟨y0, y1, y2, y3, y4, y5, y6, y7⟩ := s18 t ht
            unfold rl_T
            rw [q1, q2, pt_ne (by omega), y3]
            have n03 : ¬ (0 : Int32) = 3 := by decide
            refine ⟨by rw [i_0]; omega, fun _ => rfl, fun _ => rfl, fun q => ?_, fun q => absurd q n02, fun _ => rfl, fun q => ?_, fun q => absurd q n01, fun q => absurd q n02⟩
            · rcases q with q | q | q
              · exact absurd q n01
              · exact absurd q n02
              · exact absurd q n03
            · rcases q with q | q
              · exact absurd q n01
              · exact absurd q n02
          · exact ⟨by rw [r33, i_0]; omega, fun u hu q => absurd q (by rw [st0 u hu]; exact n01), fun i hi => absurd hi (by rw [r33, i_0]; omega), fun i j hi => absurd hi (by rw [r33, i_0]; omega)⟩
          · rw [r33, i_0]; intro q; exact absurd q (by omega)
          · rw [r31, tj 4 (by omega)]
            simp only [rl_sum]
            rw [st0 0 (by omega), st0 1 (by omega), st0 2 (by omega), st0 3 (by omega), st0 4 (by omega), st0 5 (by omega)]
            simp only [if_neg n02]
            omega
          · rw [r16f b, if_pos hb1] at hb2
            exact absurd rfl hb2
          · have hno : ∀ u, u < 6 → ¬ (τ4 8 u = 1 ∨ τ4 8 u = 2) := fun u hu q => by
              rw [st0 u hu] at q
              rcases q with q | q
              · exact n01 q
              · exact n02 q
            exact ⟨fun u hu q => absurd q (hno u hu), fun u v hu _ _ q => absurd q (hno u hu)⟩
    · have hb0 : (τ 0 14).toInt = 1 := by rw [hb, i_1]
      refine ⟨-3, σ, τ, ?_, ?_, h⟩
      · rw [f_X9_begin, if_neg (by rw [Int32.lt_iff_toInt_lt, i_1]; omega), if_pos (by rw [Int32.le_iff_toInt_le, i_6]; omega), if_neg (by rw [e10, hb]; decide)]
      · rw [f_X10_begin, f_X10_in, if_neg (by rw [Int32.lt_iff_toInt_lt, i_1]; omega), if_neg (by rw [Int32.lt_iff_toInt_lt, i_6]; omega), pt_b2e, if_neg (by decide), if_neg (by rw [hb]; decide)]
  · refine ⟨-2, σ, τ, ?_, ?_, h⟩
    · rw [f_X9_begin]
      by_cases d : a1.toInt < 1
      · rw [if_pos (by rw [Int32.lt_iff_toInt_lt, i_1]; omega)]
      · rw [if_neg (by rw [Int32.lt_iff_toInt_lt, i_1]; omega), if_neg (by rw [Int32.le_iff_toInt_le, i_6]; omega)]
    · rw [f_X10_begin, f_X10_in]
      by_cases d : a1.toInt < 1
      · rw [if_pos (by rw [Int32.lt_iff_toInt_lt, i_1]; omega), pt_b2e, if_pos rfl]
      · rw [if_neg (by rw [Int32.lt_iff_toInt_lt, i_1]; omega), if_pos (by rw [Int32.lt_iff_toInt_lt, i_6]; omega), pt_b2e, if_pos rfl]
