/-- the list of those done again alone is changed -/
theorem again_upd {σ τ σ' τ' : pt_St} (h : rl_R σ τ) (hb : τ 0 14 = 1) (hs : ∀ c, c ≠ 8 → c ≠ 26 → σ' c = σ c) (hk : ∀ k, k ≠ 0 → k ≠ 15 → τ' k = τ k) (hj : ∀ j, j ≠ 27 → τ' 0 j = τ 0 j) (q2 : σ' 8 2 = τ' 0 27) (q26 : σ' 26 = τ' 15) (n7 : 0 ≤ (τ' 0 27).toInt ∧ (τ' 0 27).toInt ≤ (τ 0 27).toInt ∧ ∀ i : Nat, (i : Int) < (τ' 0 27).toInt → 0 ≤ (τ' 15 i).toInt ∧ (τ' 15 i).toInt < (τ 0 24).toInt) : rl_R σ' τ' := by
  obtain ⟨hA, hB, hE, hP, hI⟩ := id h
  obtain ⟨e1, e2, e3, e4, e5, e6, e7, e8, e9, e10, e11⟩ := id hA
  obtain ⟨b1, b2, b3, b4, b5, b6, b7, b8, b9, b10, b11, b12, b13, b14⟩ := id hB
  obtain ⟨g1, g2, g3, g4, g5, g6, g7, g8, g9, g10, g11, g12, g13, g14, g15, g16, g17, g18⟩ := id hE
  obtain ⟨i1, i2, i3, i4, i5, i6, i7, i8, i9, i10, i11, i12, i13, i14⟩ := hI hb
  refine ⟨rl_A_fr hA (fun k hk => by rw [hs k (by omega) (by omega)]) (by rw [hs 4 (by omega) (by omega)]) (fun j hj2 => hj j (by omega)) (fun k k1 k2 => hk k (by omega) (by omega)), rl_B_fr hB (fun j hj2 => hj j (by omega)) (hk 2 (by omega) (by omega)), ?_, fun q => rl_P_fr (hP (by rw [← hj 9 (by omega)]; exact q)) (by rw [hs 4 (by omega) (by omega)]) (by rw [hs 4 (by omega) (by omega)]) (hs 19 (by omega) (by omega)) (fun j hj2 => hj j (by omega)) (fun k hk2 => hk k (by omega) (by omega)), fun _ => ?_⟩
  · unfold rl_E
    rw [hs 5 (by omega) (by omega), hs 6 (by omega) (by omega), hs 7 (by omega) (by omega), hs 24 (by omega) (by omega), hs 25 (by omega) (by omega), hs 20 (by omega) (by omega), hs 21 (by omega) (by omega), hj 15 (by omega), hj 23 (by omega), hj 24 (by omega), hj 34 (by omega), hj 35 (by omega), hj 36 (by omega), hj 37 (by omega), hj 33 (by omega), hj 31 (by omega), hj 29 (by omega), hj 30 (by omega), hk 14 (by omega) (by omega), hk 16 (by omega) (by omega), hk 6 (by omega) (by omega), hk 7 (by omega) (by omega)]
    refine ⟨g1, g2, g3, g4, g5, g6, g7, g8, g9, g10, g11, q2, g13, g14, q26, g16, g17, fun u hu => ?_⟩
    rw [hs (9 + u) (by omega) (by omega), hk 8 (by omega) (by omega), hk 9 (by omega) (by omega), hk 11 (by omega) (by omega), hk 12 (by omega) (by omega), hk 13 (by omega) (by omega)]; exact g18 u hu
  · have e1 := hj 1 (by omega)
    have e2 := hj 2 (by omega)
    have hm := rl_many_fr e1 e2
    have hl := fun b => rl_len_fr e1 e2 b
    refine ⟨by rw [hj 15 (by omega)]; exact i1, by rw [hj 16 (by omega), hm]; exact i2, by rw [hs 7 (by omega) (by omega), hj 5 (by omega)]; exact i3, by rw [hj 23 (by omega), hj 15 (by omega)]; exact i4, by rw [hj 24 (by omega), hj 16 (by omega)]; exact i5, by rw [hj 30 (by omega), hj 16 (by omega)]; exact i6, by rw [hj 24 (by omega), hk 14 (by omega) (by omega)]; exact ⟨n7.1, by omega, i7.2.2.1, n7.2.2⟩, fun u hu => rl_T_fr (i8 u hu) (by rw [hs (9 + u) (by omega) (by omega)]; exact ⟨rfl, rfl⟩) (fun j hj2 => hj j (by omega)) (fun k hk2 => hk k (by omega) (by omega)), ?_, ?_, ?_, ?_, by rw [hj 16 (by omega), hk 16 (by omega) (by omega)]; exact i13, by unfold rl_D; rw [hk 8 (by omega) (by omega), hk 9 (by omega) (by omega), hj 24 (by omega)]; exact i14⟩
    · unfold rl_L at i9 ⊢
      rw [hj 33 (by omega), hk 8 (by omega) (by omega), hk 17 (by omega) (by omega), hs 23 (by omega) (by omega)]; exact i9
    · rw [hj 33 (by omega), hj 31 (by omega), hl, hk 9 (by omega) (by omega), hk 17 (by omega) (by omega)]; exact i10
    · rw [hj 34 (by omega), hj 35 (by omega), hk 8 (by omega) (by omega)]; exact i11
    · rw [hj 31 (by omega), hj 4 (by omega), rl_sum_fr e1 e2 6 (fun t _ => by rw [hk 8 (by omega) (by omega), hk 9 (by omega) (by omega)]; exact ⟨rfl, fun _ => rfl⟩)]; exact i12
set_option maxHeartbeats 8000000 in
theorem take_ok {σ τ τ2 : pt_St} {t x : Nat} (h : rl_R σ τ) (hb : τ 0 14 = 1) (ht : t < 6) (htt : (t : Int) < (τ 0 15).toInt) (h0t : τ 8 t = 0) (hs : τ 0 34 = -1 ∧ τ 0 35 = 0) (hx : (x : Int) < (τ 0 16).toInt)
    (hk2 : ∀ k, k ≠ 0 → τ2 k = τ k) (hj2 : ∀ j, j ≠ 24 → τ2 0 j = τ 0 j) (n24 : (τ 0 24).toInt ≤ (τ2 0 24).toInt ∧ (x : Int) < (τ2 0 24).toInt ∧ (τ2 0 24).toInt ≤ (τ 0 16).toInt)
    (hu : ∀ u, u < 6 → u ≠ t → (τ 8 u = 1 ∨ τ 8 u = 2) → τ 9 u ≠ nI x ∧ τ 14 (τ 9 u).toInt.toNat = 0) (fr : τ 14 x = 0 ∨ ((∀ u, u < 6 → u ≠ t → τ 8 u ≠ 1 ∧ τ 8 u ≠ 2) ∧ τ 0 33 = 0 ∧ 32 ≤ (τ 0 31).toInt)) :
    ∃ σ1 τ', f_X6_take σ (nI t) (nI x) = some σ1 ∧ f_X10_takes τ2 (nI t) (nI x) = some τ' ∧ τ' 0 14 = 1 ∧ σ1 5 = σ 5 ∧ ∀ σ', (∀ c, c ≠ 5 → σ' c = σ1 c) → (∀ j, j ≠ 8 → σ' 5 j = σ 5 j) → σ' 5 8 = τ2 0 24 → rl_R σ' τ' := by
  obtain ⟨hA, hB, hE, hP, hI⟩ := id h
  obtain ⟨e1, e2, e3, e4, e5, e6, e7, e8, e9, e10, e11⟩ := id hA
  obtain ⟨b1, b2, b3, b4, b5, b6, b7, b8, b9, b10, b11, b12, b13, b14⟩ := id hB
  obtain ⟨g1, g2, g3, g4, g5, g6, g7, g8, g9, g10, g11, g12, g13, g14, g15, g16, g17, g18⟩ := id hE
  obtain ⟨i1, i2, i3, i4, i5, i6, i7, i8, i9, i10, i11, i12, i13, i14⟩ := id (hI hb)
  have hmy := rl_many_le hB
  have hm5 := line_room i9 ht (by rw [h0t]; decide)
  obtain ⟨l1, l2, l3, l4⟩ := id i9
  have qt : (nI t).toNatClampNeg = t := nI_clamp (by omega)
  have qx : (nI x).toInt = (x : Int) := i_nI (by omega)
  obtain ⟨m, hmd⟩ : ∃ m, m = (τ 0 33).toInt.toNat := ⟨_, rfl⟩
  have hm : τ 0 33 = nI m := by rw [hmd]; exact i_of l1
  have qm : (nI m).toInt = (m : Int) := i_nI (by omega)
  have qmc : (nI m).toNatClampNeg = m := nI_clamp (by omega)
  obtain ⟨L, v1, v2, v3, v4, v5⟩ := len_ok hA hB (x := nI x) (by omega) (by omega)
  rw [qx] at v3
  have qL : (nI L).toInt = (L : Int) := i_nI (by omega)
  have y6 := (i8 t ht).2.2.2.2.2.1 (by rw [h0t]; decide)
  have cm : nI m = 0 ↔ m = 0 := by
    rw [i_eq, qm, i_0]; omega
  have v6 : ∀ τ3 : pt_St, τ3 0 1 = τ 0 1 → τ3 0 2 = τ 0 2 → f_X10_lengthOf τ3 (nI x) = some (nI L, τ3) := fun τ3 a b => len_fr a b v4
  obtain ⟨σb, hσb⟩ : ∃ y, y = pt_put (pt_put σ (9 + t) 2 (nI x)) (9 + t) 4 (nI L) := ⟨_, rfl⟩
  obtain ⟨τb, hτb⟩ : ∃ y, y = pt_put τ2 9 t (nI x) := ⟨_, rfl⟩
  have hC : f_X6_take σ (nI t) (nI x) = pt_b1 (f_X1_ask σb (nI t)) fun σ3 => some σ3 := by
    rw [f_X6_take, v5, pt_b2e, f_X8_choose, qt, pt_doe, pt_doe, pt_b1e, hσb]
  have b6 : σb 6 = σ 6 := by rw [hσb]; simp (disch := omega) only [pt_ne]
  have b4' : σb (9 + t) 4 = nI L := by rw [hσb, pt_eq]
  have tb0 : τb 0 = τ2 0 := by rw [hτb, pt_ne (by omega)]
  have tb9 : τb 9 t = nI x := by rw [hτb, pt_eq]
  have tb33 : τb 0 33 = nI m := by rw [tb0, hj2 33 (by omega), hm]
  have tb31 : τb 0 31 = τ 0 31 := by rw [tb0, hj2 31 (by omega)]
  have lb := v6 τb (by rw [tb0, hj2 1 (by omega)]) (by rw [tb0, hj2 2 (by omega)])
  have fr2 : τ 14 x = 0 ∨ ∀ u, u < 6 → u ≠ t → τ 8 u ≠ 1 ∧ τ 8 u ≠ 2 := by
    rcases fr with q | q
    · exact Or.inl q
    · exact Or.inr q.1
  by_cases c : m = 0 ∧ (L : Int) ≤ (τ 0 31).toInt
  · obtain ⟨σ1, hσ1⟩ : ∃ y, y = pt_put (pt_put (pt_put σb 6 2 (τ 0 31 - nI L)) (9 + t) 1 2) (9 + t) 3 0 := ⟨_, rfl⟩
    obtain ⟨τ1, hτ1⟩ : ∃ y, y = pt_put (pt_put (pt_put τb 0 31 (τ 0 31 - nI L)) 8 t 2) 10 t 0 := ⟨_, rfl⟩
    have h33 : τ 0 33 = 0 := by rw [hm, c.1]; rfl
    refine ⟨σ1, τ1, ?_, ?_, ?_, ?_, fun σ' s1 s5 s58 => ?_⟩
    · rw [hC, f_X1_ask, qt, b6, g8, g9, hm, if_pos (cm.mpr c.1), b4', if_neg (by rw [Int32.lt_iff_toInt_lt]; omega), pt_doe, f_X8_startWork, qt, pt_doe, pt_doe, pt_b1e, pt_b1e, hσ1]
    · rw [f_X10_takes, if_pos (nI_in ht (by omega)), qt, pt_doe, ← hτb, tb33, if_pos (cm.mpr c.1), lb, pt_b2e, tb31, if_neg (by rw [Int32.lt_iff_toInt_lt]; omega), f_X10_works, if_pos (nI_in ht (by omega)), qt, tb9, lb, pt_b2e, tb31, pt_doe, pt_doe, pt_doe, pt_b1e, hτ1]
    · rw [hτ1]; simp (disch := omega) only [pt_ne, pt_nj]; rw [tb0, hj2 14 (by omega)]; exact hb
    · rw [hσ1, hσb]; simp (disch := omega) only [pt_ne]
    · have s1' : ∀ c, c ≠ 5 → σ' c = σ1 c := s1
      refine take_upd (L := L) (m := m) h hb ht htt h0t hs hx v3 v2 (fun c c9 c5 c6 c23 => by rw [s1 c c5, hσ1, hσb]; simp (disch := omega) only [pt_ne]) s5 (by rw [s58, hτ1]; simp (disch := omega) only [pt_ne, pt_nj]; rw [tb0]) (fun k k0 k8 k9 k10 k17 => by rw [hτ1, hτb]; simp (disch := omega) only [pt_ne]; exact hk2 k k0) (fun k j k8 k10 hjt => by rw [hτ1, pt_njk hjt, pt_njk hjt, pt_ne (by omega), hτb, pt_njk hjt, hk2 k (by omega)]) (fun j j24 j31 j33 => by rw [hτ1]; simp (disch := omega) only [pt_ne, pt_nj]; rw [tb0]; exact hj2 j j24) ?_ ?_ ?_ ?_ (fun j hj => ?_) hu fr2 hm (by omega) (Or.inl ?_)
      · rw [hτ1]; simp (disch := omega) only [pt_ne, pt_nj]; rw [tb0]; exact n24
      · rw [hτ1]; simp (disch := omega) only [pt_ne]; exact tb9
      · rw [s1 _ (by omega), hσ1, hσb]; simp (disch := omega) only [pt_ne, pt_nj, pt_eq]
      · rw [s1 _ (by omega), hσ1]; simp (disch := omega) only [pt_ne, pt_nj]; exact b4'
      · rw [s1 _ (by omega), hσ1, hσb]; simp (disch := omega) only [pt_ne, pt_nj]
      · unfold tk_W
        rw [s1 6 (by omega), s1 23 (by omega), s1 (9 + t) (by omega), hσ1, hτ1]
        simp (disch := omega) only [pt_ne, pt_nj, pt_eq]
        refine ⟨trivial, trivial, trivial, trivial, h33, by rw [tb33, c.1]; rfl, c.2, trivial, by rw [b6, g8, h33], trivial, by rw [hσb]; simp (disch := omega) only [pt_ne], by rw [hτb, pt_ne (by omega)]; exact hk2 17 (by omega)⟩
  · have h14 : τ 14 x = 0 := by
      rcases fr with q | ⟨-, q1, q2⟩
      · exact q
      · refine absurd ?_ c
        rw [hm] at q1
        exact ⟨cm.mp q1, by omega⟩
    obtain ⟨σ1, hσ1⟩ : ∃ y, y = pt_put (pt_put (pt_put σb 23 m (nI t)) 6 1 (nI (m + 1))) (9 + t) 1 1 := ⟨_, rfl⟩
    obtain ⟨τ1, hτ1⟩ : ∃ y, y = pt_put (pt_put (pt_put τb 8 t 1) 17 m (nI t)) 0 33 (nI (m + 1)) := ⟨_, rfl⟩
    have hask : f_X1_ask σb (nI t) = some σ1 := by
      have tail : (if nI m < 0 then some σb else if (6 : Int32) ≤ nI m then some σb else if pt_in (nI m) 6 then pt_do (pt_put σb 23 (nI m).toNatClampNeg (nI t)) fun σ6 => pt_do (pt_put σ6 6 1 (σ6 6 1 + 1)) fun σ7 => pt_b1 (f_X8_waitInLine σ7 (nI t)) fun σ8 => some σ8 else none) = some σ1 := by
        rw [if_neg (by rw [Int32.lt_iff_toInt_lt, i_0]; omega), if_neg (by rw [Int32.le_iff_toInt_le, i_6]; omega), if_pos (nI_in (by omega) (by omega)), qmc, pt_doe, pt_doe, pt_ne (by omega), b6, g8, hm, nI_1, f_X8_waitInLine, qt, pt_doe, pt_b1e, hσ1]
      rw [f_X1_ask, qt, b6, g8, g9, hm, b4']
      by_cases c1 : m = 0
      · have c2 : (τ 0 31).toInt < (L : Int) := by
          by_cases q : (L : Int) ≤ (τ 0 31).toInt
          · exact absurd ⟨c1, q⟩ c
          · omega
        rw [if_pos (cm.mpr c1), if_pos (by rw [Int32.lt_iff_toInt_lt]; omega)]
        exact tail
      · rw [if_neg (fun q => c1 (cm.mp q))]
        exact tail
    have htks : f_X10_takes τ2 (nI t) (nI x) = some τ1 := by
      have hb8 : (pt_put τb 8 t 1) 0 33 = nI m := by rw [pt_ne (by omega), tb33]
      have tail : (pt_do (pt_put τb 8 t (1 : Int32)) fun σ6 => if pt_in (σ6 0 33) 6 then pt_do (pt_put σ6 17 (σ6 0 33).toNatClampNeg (nI t)) fun σ8 => pt_do (pt_put σ8 0 33 (σ8 0 33 + (1 : Int32))) fun σ9 => some σ9 else none) = some τ1 := by
        rw [pt_doe, hb8, if_pos (nI_in (by omega) (by omega)), qmc, pt_doe, pt_doe, pt_ne (by omega), hb8, nI_1, hτ1]
      rw [f_X10_takes, if_pos (nI_in ht (by omega)), qt, pt_doe, ← hτb, tb33]
      by_cases c1 : m = 0
      · have c2 : (τ 0 31).toInt < (L : Int) := by
          by_cases q : (L : Int) ≤ (τ 0 31).toInt
          · exact absurd ⟨c1, q⟩ c
          · omega
        rw [if_pos (cm.mpr c1), lb, pt_b2e, tb31, if_pos (by rw [Int32.lt_iff_toInt_lt]; omega)]
        exact tail
      · rw [if_neg (fun q => c1 (cm.mp q))]
        exact tail
    refine ⟨σ1, τ1, by rw [hC, hask, pt_b1e], htks, ?_, ?_, fun σ' s1 s5 s58 => ?_⟩
    · rw [hτ1]; simp (disch := omega) only [pt_ne, pt_nj]; rw [tb0, hj2 14 (by omega)]; exact hb
    · rw [hσ1, hσb]; simp (disch := omega) only [pt_ne]
    · refine take_upd (L := L) (m := m) h hb ht htt h0t hs hx v3 v2 (fun c c9 c5 c6 c23 => by rw [s1 c c5, hσ1, hσb]; simp (disch := omega) only [pt_ne]) s5 (by rw [s58, hτ1]; simp (disch := omega) only [pt_ne, pt_nj]; rw [tb0]) (fun k k0 k8 k9 k10 k17 => by rw [hτ1, hτb]; simp (disch := omega) only [pt_ne]; exact hk2 k k0) (fun k j k8 k10 hjt => by rw [hτ1, pt_ne (by omega), pt_ne (by omega), pt_njk hjt, hτb, pt_njk hjt, hk2 k (by omega)]) (fun j j24 j31 j33 => by rw [hτ1]; simp (disch := omega) only [pt_ne, pt_nj]; rw [tb0]; exact hj2 j j24) ?_ ?_ ?_ ?_ (fun j hj => ?_) hu fr2 hm (by omega) (Or.inr ?_)
      · rw [hτ1]; simp (disch := omega) only [pt_ne, pt_nj]; rw [tb0]; exact n24
      · rw [hτ1]; simp (disch := omega) only [pt_ne]; exact tb9
      · rw [s1 _ (by omega), hσ1, hσb]; simp (disch := omega) only [pt_ne, pt_nj, pt_eq]
      · rw [s1 _ (by omega), hσ1]; simp (disch := omega) only [pt_ne, pt_nj]; exact b4'
      · rw [s1 _ (by omega), hσ1, hσb]; simp (disch := omega) only [pt_ne, pt_nj]
      · unfold tk_L
        have b23 : σb 23 = σ 23 := by rw [hσb]; simp (disch := omega) only [pt_ne]
        have b17 : τb 17 = τ 17 := by rw [hτb, pt_ne (by omega)]; exact hk2 17 (by omega)
        have b3' : σb (9 + t) 3 = -1 := by rw [hσb]; simp (disch := omega) only [pt_nj]; exact y6
        rw [s1 6 (by omega), s1 23 (by omega), s1 (9 + t) (by omega), hσ1, hτ1]
        simp (disch := omega) only [pt_ne, pt_nj, pt_eq]
        rw [pt_row, if_pos rfl, pt_row, if_pos rfl, b6, b3', tb31, b23]
        simp (disch := omega) only [pt_ne]
        rw [b17]
        refine ⟨h14, trivial, trivial, trivial, fun c1 => ?_, trivial, trivial, trivial, trivial, trivial, rfl⟩
        by_cases q : (L : Int) ≤ (τ 0 31).toInt
        · exact absurd ⟨c1, q⟩ c
        · omega
