/-! ===== a pack is laid into the row ===== -/
set_option maxHeartbeats 4000000 in
theorem lay_core {σ τ : pt_St} {t b : Nat} {a1 c1 x2 : Int32} (h : rl_R σ τ) (hb : τ 0 14 = 1) (ht : t < 6) (h3 : τ 8 t = 3) (h9 : τ 9 t = nI b) (hb40 : (b : Int) < (τ 0 16).toInt) : ∃ σ2 σ' τ', lp_X4_lay_51 (kx_X4_lay_51 a1) a1 pt_F (pt_put (pt_put σ 24 b 1) 7 1 (σ 7 1 + 1)) = some (1, σ2) ∧ f_X8_becomeFree σ2 (nI t) = some σ' ∧
    lp_X10_lays_59 (kx_X10_lays_59 c1) c1 pt_F (pt_put (pt_put (pt_put (pt_put τ 16 b 1) 0 29 (τ 0 29 + 1)) 8 t 0) 9 t (-1)) x2 = some (1, τ') ∧ rl_R σ' τ' ∧ (∀ j, j ≠ 29 → j ≠ 30 → τ' 0 j = τ 0 j) := by
  obtain ⟨hA, hB, hE, hP, hI⟩ := id h
  obtain ⟨e1, e2, e3, e4, e5, e6, e7, e8, e9, e10, e11⟩ := id hA
  obtain ⟨b1, b2, b3, b4, b5, b6, b7, b8, b9, b10, b11, b12, b13, b14⟩ := id hB
  obtain ⟨g1, g2, g3, g4, g5, g6, g7, g8, g9, g10, g11, g12, g13, g14, g15, g16, g17, g18⟩ := id hE
  obtain ⟨i1, i2, i3, i4, i5, i6, i7, i8, i9, i10, i11, i12, i13, i14⟩ := id (hI hb)
  have hm := rl_many_le hB
  have qt : (nI t).toNatClampNeg = t := nI_clamp (by omega)
  obtain ⟨nb, hnb⟩ : ∃ x, x = (τ 0 16).toInt.toNat := ⟨_, rfl⟩
  have hnb2 : τ 0 16 = nI nb := by rw [hnb]; exact i_of (by omega)
  obtain ⟨J, hJ⟩ : ∃ x, x = (τ 0 30).toInt.toNat := ⟨_, rfl⟩
  have hJ2 : τ 0 30 = nI J := by rw [hJ]; exact i_of (by omega)
  obtain ⟨σ1, hσ1⟩ : ∃ x, x = pt_put (pt_put σ 24 b 1) 7 1 (σ 7 1 + 1) := ⟨_, rfl⟩
  obtain ⟨τ1, hτ1⟩ : ∃ x, x = pt_put (pt_put (pt_put (pt_put τ 16 b 1) 0 29 (τ 0 29 + 1)) 8 t 0) 9 t (-1) := ⟨_, rfl⟩
  obtain ⟨σ2, τ2, J', w1, w2, w3, w4, w5, w6, w7, w8, w9, w10, w11, w12⟩ := row_lp (nb := nb) (by omega) (kC := kx_X4_lay_51 a1) (kR := kx_X10_lays_59 c1) (a1 := a1) (b1 := c1) (x2 := x2) (nb - J) J pt_F pt_F σ1 τ1 (by omega) (by unfold pt_F; omega) (by unfold pt_F; omega) (by rw [hσ1]; simp (disch := omega) only [pt_ne, pt_nj]; rw [g11, hJ2]) (by rw [hτ1]; simp (disch := omega) only [pt_ne, pt_nj]; exact hJ2) (by rw [hτ1]; simp (disch := omega) only [pt_ne, pt_nj]; exact hnb2) (by rw [hσ1, hτ1]; simp (disch := omega) only [pt_ne, pt_eq]; rw [g10]) (by rw [hσ1, hτ1]; simp (disch := omega) only [pt_ne]; rw [pt_row, pt_row, if_pos rfl, if_pos rfl, g13]) (fun c hc hz => by
    rw [hτ1] at hz
    simp (disch := omega) only [pt_ne] at hz
    by_cases cb : c = b
    · omega
    · rw [pt_nj cb] at hz; have := i13 c hc hz; omega)
  obtain ⟨σ3, hσ3⟩ : ∃ x, x = pt_put (pt_put (pt_put (pt_put σ2 (9 + t) 1 0) (9 + t) 2 (-1)) (9 + t) 3 (-1)) (9 + t) 4 0 := ⟨_, rfl⟩
  obtain ⟨σm, hσm⟩ : ∃ x, x = pt_put (pt_put (pt_put (pt_put σ (9 + t) 1 0) (9 + t) 2 (-1)) (9 + t) 3 (-1)) (9 + t) 4 0 := ⟨_, rfl⟩
  obtain ⟨τm, hτm⟩ : ∃ x, x = pt_put (pt_put τ 8 t 0) 9 t (-1) := ⟨_, rfl⟩
  obtain ⟨y0, y1, y2, y3, y4, y5⟩ := g18 t ht
  have hRm : rl_R σm τm := by
    refine thr_upd h hb ht (fun c hc => by rw [hσm]; simp (disch := omega) only [pt_ne]) (fun k hk => by rw [hτm]; simp (disch := omega) only [pt_ne]) (fun k j hj => by rw [hτm, pt_njk hj, pt_njk hj]) ?_ ?_ ?_ ?_
    · rw [h3]; exact ⟨by decide, by decide⟩
    · rw [hτm]
      simp (disch := omega) only [pt_ne, pt_eq]
      exact ⟨by decide, by decide⟩
    · rw [hσm, hτm]
      simp (disch := omega) only [pt_ne, pt_nj, pt_eq]
      exact ⟨y0, trivial, trivial, y3, y4, y5⟩
    · rw [hσm, hτm]
      unfold rl_T
      simp (disch := omega) only [pt_ne, pt_nj, pt_eq]
      refine ⟨by decide, fun q => trivial, fun _ => trivial, fun q => ?_, fun q => absurd q (by decide), fun _ => trivial, fun q => ?_, fun q => absurd q (by decide), fun q => absurd q (by decide)⟩
      · rcases q with q | q | q <;> exact absurd q (by decide)
      · rcases q with q | q <;> exact absurd q (by decide)
  have m0 : τm 0 = τ 0 := by rw [hτm]; simp (disch := omega) only [pt_ne]
  have hj2 : ∀ j, j ≠ 29 → j ≠ 30 → τ2 0 j = τ 0 j := fun j j1 j2 => by
    rw [w6 j j1 j2, hτ1]; simp (disch := omega) only [pt_ne, pt_nj]
  refine ⟨σ2, σ3, τ2, ?_, ?_, ?_, ?_, hj2⟩
  · rw [← hσ1, w1, kx_X4_lay_51]
  · rw [f_X8_becomeFree, qt, pt_doe, pt_doe, pt_doe, pt_doe, hσ3]
  · rw [← hτ1, w2, kx_X10_lays_59]
  · have q30 : (nI J').toInt = (J' : Int) := i_nI (by omega)
    refine row_upd hRm (by rw [m0]; exact hb) (fun c c7 c24 => ?_) ?_ (fun k k0 k16 => ?_) (fun j j29 j30 => ?_) ?_ ?_ ?_ ?_ ?_
    · by_cases c9 : c = 9 + t
      · subst c9
        rw [hσ3, hσm]
        simp only [pt_row, ↓reduceIte]
        rw [w3 (9 + t) c7 c24, hσ1]
        simp (disch := omega) only [pt_ne]
      · rw [hσ3, hσm]
        simp (disch := omega) only [pt_ne]
        rw [w3 c c7 c24, hσ1]
        simp (disch := omega) only [pt_ne]
    · rw [hσ3, hσm]
      simp (disch := omega) only [pt_ne]
      rw [w4, hσ1]
      simp (disch := omega) only [pt_ne, pt_nj]
    · rw [w5 k k0 k16, hτ1, hτm]
      by_cases k9 : k = 9
      · subst k9; simp only [pt_row, Nat.reduceEqDiff, ↓reduceIte]
      · by_cases k8 : k = 8
        · subst k8; simp only [pt_row, Nat.reduceEqDiff, ↓reduceIte]
        · simp (disch := omega) only [pt_ne]
    · rw [hj2 j j29 j30, m0]
    · rw [hσ3]; simp (disch := omega) only [pt_ne]; exact w7
    · rw [hσ3]; simp (disch := omega) only [pt_ne]; rw [w8, w9]
    · rw [hσ3]; simp (disch := omega) only [pt_ne]; exact w11
    · rw [w9, q30, m0]; omega
    · intro c c40 cz
      have := w12 c c40 cz
      rw [m0]; omega
theorem sm_lay {σ τ : pt_St} {t : Nat} (h : rl_R σ τ) (hb : τ 0 14 = 1) (ht : t < 6) (h3 : τ 8 t = 3) : ∃ r σ' τ', (r = 0 ∨ r = 1) ∧ f_X6_layPack σ (nI t) = some (r, σ') ∧ f_X10_lays τ (nI t) = some (r, τ') ∧ rl_R σ' τ' ∧ (∀ j, j ≠ 29 → j ≠ 30 → τ' 0 j = τ 0 j) := by
  obtain ⟨hA, hB, hE, hP, hI⟩ := id h
  obtain ⟨e1, e2, e3, e4, e5, e6, e7, e8, e9, e10, e11⟩ := id hA
  obtain ⟨b1, b2, b3, b4, b5, b6, b7, b8, b9, b10, b11, b12, b13, b14⟩ := id hB
  obtain ⟨g1, g2, g3, g4, g5, g6, g7, g8, g9, g10, g11, g12, g13, g14, g15, g16, g17, g18⟩ := id hE
  obtain ⟨i1, i2, i3, i4, i5, i6, i7, i8, i9, i10, i11, i12, i13, i14⟩ := id (hI hb)
  have hm := rl_many_le hB
  have qt : (nI t).toNatClampNeg = t := nI_clamp (by omega)
  have hblk := (i8 t ht).2.2.2.1 (Or.inr (Or.inr h3))
  obtain ⟨b, hbd⟩ : ∃ x, x = (τ 9 t).toInt.toNat := ⟨_, rfl⟩
  have h9 : τ 9 t = nI b := by rw [hbd]; exact i_of (by omega)
  have q : (nI b).toInt = (b : Int) := i_nI (by omega)
  have qc : (nI b).toNatClampNeg = b := nI_clamp (by omega)
  have y2 := (g18 t ht).2.2.1
  have hin : pt_in (nI b) 40 := nI_in (by omega) (by omega)
  obtain ⟨σ2, σ', τ', w1, w2, w3, w4, w5⟩ := lay_core (a1 := nI b) (c1 := nI t) (x2 := nI b) h hb ht h3 h9 (by omega)
  by_cases c : τ 9 t = τ 0 30
  · refine ⟨1, σ', τ', Or.inr rfl, ?_, ?_, w4, w5⟩
    · rw [f_X6_layPack, qt, y2, h9, f_X4_lay, if_neg (by rw [Int32.lt_iff_toInt_lt, i_0]; omega), if_neg (by rw [Int32.le_iff_toInt_le, i_40]; omega), if_pos (by rw [g11, ← c, h9]), if_pos hin, qc, i_nar1, pt_doe, pt_doe, pt_ne (show 7 ≠ 24 by omega), w1, pt_b2e, if_neg (by decide), w2, pt_b1e]
    · rw [f_X10_lays, if_pos (nI_in ht (by omega)), qt, if_pos c, h9, if_pos hin, qc, i_nar1, pt_doe, pt_doe, pt_doe, pt_doe, pt_ne (show 0 ≠ 16 by omega), w3]
  · by_cases c2 : τ 0 29 < τ 0 5
    · refine ⟨1, σ', τ', Or.inr rfl, ?_, ?_, w4, w5⟩
      · rw [f_X6_layPack, qt, y2, h9, f_X4_lay, if_neg (by rw [Int32.lt_iff_toInt_lt, i_0]; omega), if_neg (by rw [Int32.le_iff_toInt_le, i_40]; omega), if_neg (by rw [g11, ← h9]; exact c), if_pos (by rw [g10, i3]; exact c2), if_pos hin, qc, i_nar1, pt_doe, pt_doe, pt_ne (show 7 ≠ 24 by omega), w1, pt_b2e, if_neg (by decide), w2, pt_b1e]
      · rw [f_X10_lays, if_pos (nI_in ht (by omega)), qt, if_neg c, if_pos c2, h9, if_pos hin, qc, i_nar1, pt_doe, pt_doe, pt_doe, pt_doe, pt_ne (show 0 ≠ 16 by omega), w3]
    · refine ⟨0, σ, τ, Or.inl rfl, ?_, ?_, h, fun _ _ _ => rfl⟩
      · rw [f_X6_layPack, qt, y2, h9, f_X4_lay, if_neg (by rw [Int32.lt_iff_toInt_lt, i_0]; omega), if_neg (by rw [Int32.le_iff_toInt_le, i_40]; omega), if_neg (by rw [g11, ← h9]; exact c), if_neg (by rw [g10, i3]; exact c2), pt_b2e, if_pos rfl]
      · rw [f_X10_lays, if_pos (nI_in ht (by omega)), qt, if_neg c, if_neg c2]
