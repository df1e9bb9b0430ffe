set_option maxHeartbeats 8000000 in
theorem fail_ok2 {σ τ : pt_St} {t b : Nat} {kd : Int32} (h : rl_R σ τ) (hb : τ 0 14 = 1) (ht : t < 6) (h2 : τ 8 t = 2) (h9 : τ 9 t = nI b) (hb40 : b < 40) (hs : τ 0 34 = -1 ∧ τ 0 35 = 0) (hkd : kd = τ 2 b) (hk1 : 1 ≤ (τ 2 b).toInt) :
    ∃ σ' τ', f_X6_fail σ (nI t) kd = some σ' ∧ wk_F τ t b (nI b) (σ (9 + t) 4) = some (1, τ') ∧ rl_R σ' τ' ∧ τ' 0 14 = 1 := by
  obtain ⟨hA, hB, hE, hP, hI⟩ := id h
  obtain ⟨e1, e2, e3, e4, e5, e6, e7, e8, e9, e10, e11⟩ := id hA
  obtain ⟨b1, b2, b3, b4, b5, b6, b7, b8, b9, b10, b11, b12, b13, b14⟩ := id hB
  obtain ⟨g1, g2, g3, g4, g5, g6, g7, g8, g9, g10, g11, g12, g13, g14, g15, g16, g17, g18⟩ := id hE
  obtain ⟨i1, i2, i3, i4, i5, i6, i7, i8, i9, i10, i11, i12, i13, i14⟩ := id (hI hb)
  have qt : (nI t).toNatClampNeg = t := nI_clamp (by omega)
  have qb : (nI b).toNatClampNeg = b := nI_clamp (by omega)
  have qbi : (nI b).toInt = (b : Int) := i_nI (by omega)
  have q9 : (τ 9 t).toInt = (b : Int) := by rw [h9, qbi]
  obtain ⟨y0, y1, y2, y3, y4, y5⟩ := g18 t ht
  have hT := i8 t ht
  have hblk := i14.1 t ht (Or.inr h2)
  have bC : f_X6_fail σ (nI t) kd = pt_b1 (f_X1_giveBack σ (σ (9 + t) 4)) fun σ1 => pt_b1 (f_X8_becomeFree σ1 (nI t)) fun σ2 => pt_do (pt_put σ2 5 11 (σ2 5 11 + 1)) fun σ3 => pt_b2 (f_X0_has σ3 (nI b)) fun r4 σ4 => if r4 = 0 then pt_b1 (f_X0_add σ4 (nI b)) fun σ6 => some σ6 else pt_do (pt_put σ4 5 9 (nI b)) fun σ7 => pt_do (pt_put σ7 5 10 kd) fun σ8 => some σ8 := by
    rw [f_X6_fail, qt, y2, h9]
  by_cases c : τ 14 b = 0
  · -- the first time
    obtain ⟨A, hA1⟩ : ∃ A, A = (τ 0 27).toInt.toNat := ⟨_, rfl⟩
    have hA2 : τ 0 27 = nI A := by rw [hA1]; exact i_of i7.1
    have cu := cnt_up (f := τ 14) (b := b) c 40
    have cl := cnt_le (upd (τ 14) b 1) 40
    rw [if_pos hb40] at cu
    have hA3 : A < 40 := by omega
    have qA : (nI A).toNatClampNeg = A := nI_clamp (by omega)
    have qA1 : (nI (A + 1)).toInt = ((A + 1 : Nat) : Int) := i_nI (by omega)
    obtain ⟨τc, hτc⟩ : ∃ x, x = pt_put (pt_put (pt_put (pt_put (pt_put (pt_put τ 0 36 (τ 0 36 + 1)) 8 t 0) 9 t (-1)) 14 b 1) 15 A (nI b)) 0 27 (nI (A + 1)) := ⟨_, rfl⟩
    obtain ⟨σg, τg, w1, w2, w3, w4, w5, w6, w7, w8⟩ := gb_main (τc := τc) (σ0 := σ) h hb ht h2 (fun k k0 kk => by rw [hτc]; simp (disch := omega) only [pt_ne]) (fun k j k8 k13 hj => by rw [hτc, pt_ne (by omega), pt_ne (by omega), pt_ne (by omega), pt_njk hj, pt_njk hj, pt_ne (by omega)]) (fun j j1 j2 j3 j4 => by rw [hτc]; simp (disch := omega) only [pt_ne, pt_nj]) (Or.inl (by rw [hτc]; simp (disch := omega) only [pt_ne, pt_eq]; exact ⟨trivial, trivial⟩)) (fun _ _ => rfl) (fun _ _ => rfl)
    have tc14 : τc 14 = upd (τ 14) b 1 := by rw [hτc]; simp (disch := omega) only [pt_ne]; rw [pt_row, if_pos rfl]; simp (disch := omega) only [pt_ne]
    have tc15 : τc 15 = upd (τ 15) A (nI b) := by rw [hτc]; simp (disch := omega) only [pt_ne]; rw [pt_row, if_pos rfl]; simp (disch := omega) only [pt_ne]
    have tc27 : τc 0 27 = nI (A + 1) := by rw [hτc, pt_eq]
    have tc36 : τc 0 36 = τ 0 36 + 1 := by rw [hτc]; simp (disch := omega) only [pt_ne, pt_nj, pt_eq]
    have tc0 : ∀ j, j ≠ 27 → j ≠ 36 → τc 0 j = τ 0 j := fun j j1 j2 => by rw [hτc]; simp (disch := omega) only [pt_ne, pt_nj]
    obtain ⟨σ', hσ'⟩ : ∃ x, x = pt_put (pt_put (pt_put (pt_put (pt_put (pt_put (pt_put (pt_put σg (9 + t) 1 0) (9 + t) 2 (-1)) (9 + t) 3 (-1)) (9 + t) 4 0) 5 11 (τ 0 36 + 1)) 25 b 1) 26 A (nI b)) 8 2 (nI (A + 1)) := ⟨_, rfl⟩
    have G5 : σg 5 = σ 5 := w3 5 (by omega) (by omega) (by omega)
    have G8 : σg 8 = σ 8 := w3 8 (by omega) (by omega) (by omega)
    have G25 : σg 25 = σ 25 := w3 25 (by omega) (by omega) (by omega)
    have G26 : σg 26 = σ 26 := w3 26 (by omega) (by omega) (by omega)
    refine ⟨σ', τg, ?_, ?_, ?_, by rw [w6 14 (by omega) (by omega), tc0 14 (by omega) (by omega)]; exact hb⟩
    · rw [bC, w1, pt_b1e, f_X8_becomeFree, qt, pt_doe, pt_doe, pt_doe, pt_doe, pt_b1e, pt_doe]
      have hhas : ∀ x : pt_St, x 25 = σ 25 → f_X0_has x (nI b) = some (0, x) := fun x hx => by
        rw [f_X0_has, if_neg (by rw [Int32.lt_iff_toInt_lt, i_0]; omega), if_neg (by rw [Int32.le_iff_toInt_le, i_40]; omega), if_pos (nI_in hb40 (by omega)), qb, if_pos (by rw [hx, g14]; exact c)]
      have hadd : ∀ x : pt_St, x 8 = σ 8 → f_X0_add x (nI b) = some (pt_put (pt_put (pt_put x 25 b 1) 26 A (nI b)) 8 2 (nI (A + 1))) := fun x hx => by
        have h82 : x 8 2 = nI A := by rw [hx, g12, hA2]
        rw [f_X0_add, h82, if_neg (by rw [Int32.lt_iff_toInt_lt, i_0]; omega), if_neg (by rw [Int32.le_iff_toInt_le, i_40]; omega), if_neg (by rw [Int32.lt_iff_toInt_lt, i_0, i_nI (by omega)]; omega), if_neg (by rw [Int32.le_iff_toInt_le, i_40, i_nI (by omega)]; omega), if_pos (nI_in hb40 (by omega)), qb, i_nar1, pt_doe, pt_ne (by omega), h82, if_pos (nI_in hA3 (by omega)), qA, pt_doe, pt_doe, pt_ne (by omega), pt_ne (by omega), h82, nI_1]
      rw [hhas _ (by simp (disch := omega) only [pt_ne]; exact G25), pt_b2e, if_pos rfl, hadd _ (by simp (disch := omega) only [pt_ne]; exact G8), pt_b1e, hσ']
      simp (disch := omega) only [pt_ne]
      rw [G5, g6]
    · rw [wk_F, pt_doe, pt_doe, pt_doe]
      simp (disch := omega) only [pt_ne, pt_nj]
      rw [if_pos c, pt_doe, i_nar1]
      simp (disch := omega) only [pt_ne, pt_nj]
      rw [hA2, if_pos (nI_in hA3 (by omega)), qA, pt_doe, pt_doe]
      simp (disch := omega) only [pt_ne, pt_nj]
      rw [hA2, nI_1, ← hτc, w2, pt_b1e]
    · refine w8 σ' (fun x x1 x2 x3 x4 x5 => by rw [hσ']; simp (disch := omega) only [pt_ne]) (fun j j1 j2 j3 => by rw [hσ']; simp (disch := omega) only [pt_ne, pt_nj]; rw [G5]) ?_ ?_ ?_ ?_ ?_ ?_ ?_ ?_ ?_ ?_ ?_
      · rw [hσ', tc0 34 (by omega) (by omega)]; simp (disch := omega) only [pt_ne, pt_nj]; rw [G5, g4]
      · rw [hσ', tc0 35 (by omega) (by omega)]; simp (disch := omega) only [pt_ne, pt_nj]; rw [G5, g5]
      · rw [hσ', tc36]; simp (disch := omega) only [pt_ne, pt_nj, pt_eq]
      · rw [hσ', tc27, pt_eq]
      · rw [hσ', tc14]; simp (disch := omega) only [pt_ne]; rw [pt_row, if_pos rfl]; simp (disch := omega) only [pt_ne]; rw [G25, g14]
      · rw [hσ', tc15]; simp (disch := omega) only [pt_ne]; rw [pt_row, if_pos rfl]; simp (disch := omega) only [pt_ne]; rw [G26, g15]
      · rw [hσ', hτc]
        simp (disch := omega) only [pt_ne, pt_nj, pt_eq]
        rw [w4 0 (by omega), w4 5 (by omega), w4 6 (by omega), w4 7 (by omega)]
        exact ⟨y0, trivial, trivial, y3, y4, y5⟩
      · rw [hσ']; simp (disch := omega) only [pt_ne, pt_nj, pt_eq]
      · rw [tc27, tc14, tc15, qA1]
        refine ⟨by omega, by omega, fun j hj hj40 => by rw [upd_at, if_neg (by omega)]; exact i7.2.2.1 j hj hj40, fun i hi => ?_⟩
        rw [upd_at]
        by_cases ci : i = A
        · rw [if_pos ci, qbi]; omega
        · rw [if_neg ci]; exact i7.2.2.2 i (by omega)
      · intro j hj
        rw [tc14, upd_at, if_neg (by omega)]
      · rw [tc0 34 (by omega) (by omega), tc0 35 (by omega) (by omega)]; exact Or.inl hs
  · -- the second time
    obtain ⟨τc, hτc⟩ : ∃ x, x = pt_put (pt_put (pt_put (pt_put (pt_put τ 0 36 (τ 0 36 + 1)) 8 t 0) 9 t (-1)) 0 34 (nI b)) 0 35 (τ 2 b) := ⟨_, rfl⟩
    obtain ⟨σg, τg, w1, w2, w3, w4, w5, w6, w7, w8⟩ := gb_main (τc := τc) (σ0 := σ) h hb ht h2 (fun k k0 kk => by rw [hτc]; simp (disch := omega) only [pt_ne]) (fun k j k8 k13 hj => by rw [hτc, pt_ne (by omega), pt_ne (by omega), pt_njk hj, pt_njk hj, pt_ne (by omega)]) (fun j j1 j2 j3 j4 => by rw [hτc]; simp (disch := omega) only [pt_ne, pt_nj]) (Or.inl (by rw [hτc]; simp (disch := omega) only [pt_ne, pt_eq]; exact ⟨trivial, trivial⟩)) (fun _ _ => rfl) (fun _ _ => rfl)
    have tck : ∀ k, k ≠ 0 → k ≠ 8 → k ≠ 9 → τc k = τ k := fun k k0 k8 k9 => by rw [hτc]; simp (disch := omega) only [pt_ne]
    have tc34 : τc 0 34 = nI b := by rw [hτc]; simp (disch := omega) only [pt_nj, pt_eq]
    have tc35 : τc 0 35 = τ 2 b := by rw [hτc, pt_eq]
    have tc36 : τc 0 36 = τ 0 36 + 1 := by rw [hτc]; simp (disch := omega) only [pt_ne, pt_nj, pt_eq]
    have tc0 : ∀ j, j ≠ 34 → j ≠ 35 → j ≠ 36 → τc 0 j = τ 0 j := fun j j1 j2 j3 => by rw [hτc]; simp (disch := omega) only [pt_ne, pt_nj]
    obtain ⟨σ', hσ'⟩ : ∃ x, x = pt_put (pt_put (pt_put (pt_put (pt_put (pt_put (pt_put σg (9 + t) 1 0) (9 + t) 2 (-1)) (9 + t) 3 (-1)) (9 + t) 4 0) 5 11 (τ 0 36 + 1)) 5 9 (nI b)) 5 10 (τ 2 b) := ⟨_, rfl⟩
    have G5 : σg 5 = σ 5 := w3 5 (by omega) (by omega) (by omega)
    have G8 : σg 8 = σ 8 := w3 8 (by omega) (by omega) (by omega)
    have G25 : σg 25 = σ 25 := w3 25 (by omega) (by omega) (by omega)
    have G26 : σg 26 = σ 26 := w3 26 (by omega) (by omega) (by omega)
    refine ⟨σ', τg, ?_, ?_, ?_, by rw [w6 14 (by omega) (by omega), tc0 14 (by omega) (by omega) (by omega)]; exact hb⟩
    · rw [bC, w1, pt_b1e, f_X8_becomeFree, qt, pt_doe, pt_doe, pt_doe, pt_doe, pt_b1e, pt_doe]
      have hhas : ∀ x : pt_St, x 25 = σ 25 → f_X0_has x (nI b) = some (1, x) := fun x hx => by
        rw [f_X0_has, if_neg (by rw [Int32.lt_iff_toInt_lt, i_0]; omega), if_neg (by rw [Int32.le_iff_toInt_le, i_40]; omega), if_pos (nI_in hb40 (by omega)), qb, if_neg (by rw [hx, g14]; exact c)]
      rw [hhas _ (by simp (disch := omega) only [pt_ne]; exact G25), pt_b2e, if_neg (by decide), pt_doe, pt_doe, hσ', hkd]
      simp (disch := omega) only [pt_ne]
      rw [G5, g6]
    · rw [wk_F, pt_doe, pt_doe, pt_doe]
      simp (disch := omega) only [pt_ne, pt_nj]
      rw [if_neg c, pt_doe, pt_doe]
      simp (disch := omega) only [pt_ne, pt_nj]
      rw [← hτc, w2, pt_b1e]
    · refine w8 σ' (fun x x1 x2 x3 x4 x5 => by rw [hσ']; simp (disch := omega) only [pt_ne]) (fun j j1 j2 j3 => by rw [hσ']; simp (disch := omega) only [pt_ne, pt_nj]; rw [G5]) ?_ ?_ ?_ ?_ ?_ ?_ ?_ ?_ ?_ ?_ ?_
      · rw [hσ', tc34]; simp (disch := omega) only [pt_ne, pt_nj, pt_eq]
      · rw [hσ', tc35, pt_eq]
      · rw [hσ', tc36]; simp (disch := omega) only [pt_ne, pt_nj, pt_eq]
      · rw [hσ', tc0 27 (by omega) (by omega) (by omega)]; simp (disch := omega) only [pt_ne]; rw [G8, g12]
      · rw [hσ', tck 14 (by omega) (by omega) (by omega)]; simp (disch := omega) only [pt_ne]; rw [G25, g14]
      · rw [hσ', tck 15 (by omega) (by omega) (by omega)]; simp (disch := omega) only [pt_ne]; rw [G26, g15]
      · rw [hσ', hτc]
        simp (disch := omega) only [pt_ne, pt_nj, pt_eq]
        rw [w4 0 (by omega), w4 5 (by omega), w4 6 (by omega), w4 7 (by omega)]
        exact ⟨y0, trivial, trivial, y3, y4, y5⟩
      · rw [hσ']; simp (disch := omega) only [pt_ne, pt_nj, pt_eq]
      · rw [tc0 27 (by omega) (by omega) (by omega), tck 14 (by omega) (by omega) (by omega), tck 15 (by omega) (by omega) (by omega)]
        exact i7
      · intro j hj
        rw [tck 14 (by omega) (by omega) (by omega)]
      · rw [tc34, tc35, qbi]
        refine Or.inr ⟨by omega, hk1, fun u hu hut => ?_⟩
        refine hT.2.2.2.2.2.2.2.2 h2 ?_ u hu hut
        rw [q9, Int.toNat_natCast]; exact c
set_option maxHeartbeats 8000000 in
theorem last_ok {σ τ : pt_St} {t b : Nat} {v : Int32} (h : rl_R σ τ) (hb : τ 0 14 = 1) (ht : t < 6) (h2 : τ 8 t = 2) (hs : τ 0 34 = -1 ∧ τ 0 35 = 0) :
    ∃ σg σ' τg, f_X1_giveBack (pt_put σ (9 + t) 3 v) (σ (9 + t) 4) = some σg ∧ f_X8_holdPack σg (nI t) = some σ' ∧ f_X10_givesBack (pt_put (pt_put (pt_put τ 10 t v) 11 t (τ 11 t + 1)) 8 t 3) (σ (9 + t) 4) = some τg ∧ rl_R σ' τg ∧ τg 0 14 = 1 ∧ τg 8 t = 3 := by
  obtain ⟨hA, hB, hE, hP, hI⟩ := id h
  obtain ⟨e1, e2, e3, e4, e5, e6, e7, e8, e9, e10, e11⟩ := id hA
  obtain ⟨b1, b2, b3, b4, b5, b6, b7, b8, b9, b10, b11, b12, b13, b14⟩ := id hB
  obtain ⟨g1, g2, g3, g4, g5, g6, g7, g8, g9, g10, g11, g12, g13, g14, g15, g16, g17, g18⟩ := id hE
  obtain ⟨i1, i2, i3, i4, i5, i6, i7, i8, i9, i10, i11, i12, i13, i14⟩ := id (hI hb)
  have qt : (nI t).toNatClampNeg = t := nI_clamp (by omega)
  obtain ⟨y0, y1, y2, y3, y4, y5⟩ := g18 t ht
  obtain ⟨τc, hτc⟩ : ∃ x, x = pt_put (pt_put (pt_put τ 10 t v) 11 t (τ 11 t + 1)) 8 t 3 := ⟨_, rfl⟩
  have tck : ∀ k, k ≠ 8 → k ≠ 10 → k ≠ 11 → τc k = τ k := fun k k0 k8 k9 => by rw [hτc]; simp (disch := omega) only [pt_ne]
  have tc8 : τc 8 t = 3 := by rw [hτc, pt_eq]
  obtain ⟨σg, τg, w1, w2, w3, w4, w5, w6, w7, w8⟩ := gb_main (τc := τc) (σ0 := pt_put σ (9 + t) 3 v) h hb ht h2 (fun k k0 kk => tck k (by omega) (by omega) (by omega)) (fun k j k8 k13 hj => by rw [hτc, pt_njk hj, pt_njk hj, pt_njk hj]) (fun j j1 j2 j3 j4 => by rw [tck 0 (by omega) (by omega) (by omega)]) (Or.inr ⟨tc8, by rw [tck 9 (by omega) (by omega) (by omega)]⟩) (fun c hc => by rw [pt_ne hc]) (fun j hj => by rw [pt_nj hj])
  obtain ⟨σ', hσ'⟩ : ∃ x, x = pt_put (pt_put (pt_put σg (9 + t) 1 3) (9 + t) 3 (-1)) (9 + t) 5 (τ 11 t + 1) := ⟨_, rfl⟩
  have G5 : σg 5 = σ 5 := w3 5 (by omega) (by omega) (by omega)
  have G8 : σg 8 = σ 8 := w3 8 (by omega) (by omega) (by omega)
  have G25 : σg 25 = σ 25 := w3 25 (by omega) (by omega) (by omega)
  have G26 : σg 26 = σ 26 := w3 26 (by omega) (by omega) (by omega)
  refine ⟨σg, σ', τg, w1, ?_, by rw [← hτc]; exact w2, ?_, by rw [w6 14 (by omega) (by omega), tck 0 (by omega) (by omega) (by omega)]; exact hb, by rw [w7, tc8]⟩
  · rw [f_X8_holdPack, qt, pt_doe, pt_doe, pt_doe, hσ']
    simp (disch := omega) only [pt_nj]
    rw [w4 5 (by omega), y3]
  · refine w8 σ' (fun x x1 x2 x3 x4 x5 => by rw [hσ']; simp (disch := omega) only [pt_ne]) (fun j j1 j2 j3 => by rw [hσ']; simp (disch := omega) only [pt_ne]; rw [G5]) ?_ ?_ ?_ ?_ ?_ ?_ ?_ ?_ ?_ ?_ ?_
    · rw [hσ', tck 0 (by omega) (by omega) (by omega)]; simp (disch := omega) only [pt_ne]; rw [G5, g4]
    · rw [hσ', tck 0 (by omega) (by omega) (by omega)]; simp (disch := omega) only [pt_ne]; rw [G5, g5]
    · rw [hσ', tck 0 (by omega) (by omega) (by omega)]; simp (disch := omega) only [pt_ne]; rw [G5, g6]
    · rw [hσ', tck 0 (by omega) (by omega) (by omega)]; simp (disch := omega) only [pt_ne]; rw [G8, g12]
    · rw [hσ', tck 14 (by omega) (by omega) (by omega)]; simp (disch := omega) only [pt_ne]; rw [G25, g14]
    · rw [hσ', tck 15 (by omega) (by omega) (by omega)]; simp (disch := omega) only [pt_ne]; rw [G26, g15]
    · rw [hσ', hτc]
      simp (disch := omega) only [pt_ne, pt_nj, pt_eq]
      rw [w4 0 (by omega), w4 2 (by omega), w4 6 (by omega), w4 7 (by omega)]
      exact ⟨y0, trivial, y2, trivial, y4, y5⟩
    · rw [hσ']; simp (disch := omega) only [pt_nj, pt_eq]
    · rw [tck 0 (by omega) (by omega) (by omega), tck 14 (by omega) (by omega) (by omega), tck 15 (by omega) (by omega) (by omega)]; exact i7
    · intro j hj
      rw [tck 14 (by omega) (by omega) (by omega)]
    · rw [tck 0 (by omega) (by omega) (by omega)]; exact Or.inl hs
set_option maxHeartbeats 8000000 in
theorem sm_work {σ τ : pt_St} {t : Nat} (h : rl_R σ τ) (hb : τ 0 14 = 1) (ht : t < 6) (h2 : τ 8 t = 2) : ∃ σ' τ', f_X6_doWork σ (nI t) = some (1, σ') ∧ f_X10_work τ (nI t) = some (1, τ') ∧ rl_R σ' τ' ∧ τ' 0 14 = 1 := by
  obtain ⟨hA, hB, hE, hP, hI⟩ := id h
  obtain ⟨e1, e2, e3, e4, e5, e6, e7, e8, e9, e10, e11⟩ := id hA
  obtain ⟨b1, b2, b3, b4, b5, b6, b7, b8, b9, b10, b11, b12, b13, b14⟩ := id hB
  obtain ⟨g1, g2, g3, g4, g5, g6, g7, g8, g9, g10, g11, g12, g13, g14, g15, g16, g17, g18⟩ := id hE
  obtain ⟨i1, i2, i3, i4, i5, i6, i7, i8, i9, i10, i11, i12, i13, i14⟩ := id (hI hb)
  have hmy := rl_many_le hB
  obtain ⟨p1, p2, p3, p4, p5, p6⟩ := hP (b14 hb)
  have qt : (nI t).toNatClampNeg = t := nI_clamp (by omega)
  obtain ⟨y0, y1, y2, y3, y4, y5⟩ := g18 t ht
  obtain ⟨u1, u2, u3, u4, u5, u6, u7, u8, u9⟩ := i8 t ht
  have hblk := u4 (Or.inr (Or.inl h2))
  obtain ⟨v0, v1, v2⟩ := u5 h2
  have hs : τ 0 34 = -1 ∧ τ 0 35 = 0 := by
    rcases i11 with q | ⟨-, -, q⟩
    · exact q
    · exact absurd h2 (q t ht).2
  obtain ⟨b, hbd⟩ : ∃ x, x = (τ 9 t).toInt.toNat := ⟨_, rfl⟩
  have h9 : τ 9 t = nI b := by rw [hbd]; exact i_of (by omega)
  have hb40 : b < 40 := by omega
  have qb : (nI b).toNatClampNeg = b := nI_clamp (by omega)
  have qbi : (nI b).toInt = (b : Int) := i_nI (by omega)
  rw [← hbd] at v1
  obtain ⟨Lx, n1, n2, n3, n4, -⟩ := len_ok hA hB (x := τ 9 t) hblk.1 (by omega)
  have h4 : σ (9 + t) 4 = nI Lx := by rw [i_eq, u7 (Or.inr h2), n3, i_nI (by omega)]
  rw [h9] at n4
  have hR := work_R ht hb40 h9 n4 hs.2
  obtain ⟨r1, k1, k2, k3⟩ := kind_C (σ := σ) (b := b) (x := τ 10 t) hb40
  rw [e7, g14, e9, e8] at k3
  obtain ⟨kd, hkd⟩ : ∃ kd, kd = (if τ 3 b = τ 10 t ∧ (τ 14 b = 0 ∨ τ 4 b ≠ 0) then τ 2 b else 0) := ⟨_, rfl⟩
  rw [← hkd] at k3
  by_cases c : 1 ≤ (τ 2 b).toInt ∧ τ 3 b = τ 10 t ∧ (τ 14 b = 0 ∨ τ 4 b ≠ 0)
  · rw [if_pos c.2] at hkd
    rw [if_pos c] at hR
    obtain ⟨σ', τ', w1, w2, w3, w4⟩ := fail_ok2 h hb ht h2 h9 hb40 hs hkd c.1
    rw [h4] at w2
    refine ⟨σ', τ', ?_, by rw [hR]; exact w2, w3, w4⟩
    rw [f_X6_doWork, qt, y2, h9, k1, pt_b2e, v2, k3, pt_b2e, if_neg (by rw [hkd, i_eq, i_0]; omega), w1, pt_b1e]
  · rw [if_neg c] at hR
    have hk0 : kd = 0 := by
      rw [hkd]
      by_cases c2 : τ 3 b = τ 10 t ∧ (τ 14 b = 0 ∨ τ 4 b ≠ 0)
      · rw [if_pos c2, i_eq, i_0]
        have := b11 b
        have : ¬ 1 ≤ (τ 2 b).toInt := fun q => c ⟨q, c2⟩
        omega
      · rw [if_neg c2]
    have hr := i_rng (τ 7 b)
    obtain ⟨v, hv⟩ : ∃ v, v = τ 10 t + 1 := ⟨_, rfl⟩
    have hv2 : v.toInt = (τ 10 t).toInt + 1 := by rw [hv, i_add (by rw [i_1]; omega), i_1]
    have hC : f_X6_doWork σ (nI t) = if v < τ 7 b then some ((1 : Int32), pt_put σ (9 + t) 3 v) else pt_b1 (f_X1_giveBack (pt_put σ (9 + t) 3 v) (σ (9 + t) 4)) fun σ7 => pt_b1 (f_X8_holdPack σ7 (nI t)) fun σ8 => pt_b2 (f_X6_layPack σ8 (nI t)) fun r9 σ9 => some ((1 : Int32), σ9) := by
      rw [f_X6_doWork, qt, y2, h9, k1, pt_b2e, v2, k3, pt_b2e, if_pos hk0, pt_doe, v2, ← hv, f_X2_tokensOf, if_neg (by rw [Int32.lt_iff_toInt_lt, i_0]; omega), if_neg (by rw [Int32.le_iff_toInt_le, i_40]; omega), if_pos (nI_in hb40 (by omega)), qb, pt_b2e, pt_eq, pt_ne (show 21 ≠ 9 + t by omega), g17, pt_nj (show 4 ≠ 3 by omega)]
    have hR2 : wk_S τ t b (nI t) (nI Lx) = if v = τ 7 b then pt_b1 (f_X10_givesBack (pt_put (pt_put (pt_put τ 10 t v) 11 t (τ 11 t + 1)) 8 t 3) (nI Lx)) fun σ11 => pt_b2 (f_X10_lays σ11 (nI t)) fun r12 σ12 => some ((1 : Int32), σ12) else some ((1 : Int32), pt_put τ 10 t v) := by
      rw [wk_S, pt_doe, ← hv, pt_eq, pt_ne (show 7 ≠ 10 by omega), pt_doe, pt_doe, pt_ne (show 11 ≠ 10 by omega)]
    rw [hC, hR, hR2]
    by_cases cl : v = τ 7 b
    · obtain ⟨σg, σh, τg, w1, w2, w3, w4, w5, w6⟩ := last_ok (b := b) (v := v) h hb ht h2 hs
      obtain ⟨r, σ', τ', x1, x2, x3, x4, x5⟩ := sm_lay w4 w5 ht w6
      rw [h4] at w3
      refine ⟨σ', τ', ?_, ?_, x4, by rw [x5 14 (by omega) (by omega)]; exact w5⟩
      · rw [if_neg (by rw [Int32.lt_iff_toInt_lt, ← cl]; omega), w1, pt_b1e, w2, pt_b1e, x2, pt_b2e]
      · rw [if_pos cl, w3, pt_b1e, x3, pt_b2e]
    · have cl2 : v.toInt < (τ 7 b).toInt := by
        have : v.toInt ≠ (τ 7 b).toInt := fun q => cl (i_eq.mpr q)
        omega
      refine ⟨_, _, by rw [if_pos (by rw [Int32.lt_iff_toInt_lt]; exact cl2)], by rw [if_neg cl], pos_upd h hb ht h2 (by omega) (by rw [← hbd]; exact cl2), by rw [pt_ne (by omega)]; exact hb⟩
