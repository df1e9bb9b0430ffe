/-- the row alone is changed -/
theorem row_upd {σ τ σ' τ' : pt_St} (h : rl_R σ τ) (hb : τ 0 14 = 1) (hs : ∀ c, c ≠ 7 → c ≠ 24 → σ' c = σ c) (s2 : σ' 7 2 = σ 7 2) (hk : ∀ k, k ≠ 0 → k ≠ 16 → τ' k = τ k) (hj : ∀ j, j ≠ 29 → j ≠ 30 → τ' 0 j = τ 0 j) (q1 : σ' 7 1 = τ' 0 29) (q3 : σ' 7 3 = τ' 0 30) (q24 : σ' 24 = τ' 16) (n6 : 0 ≤ (τ' 0 30).toInt ∧ (τ' 0 30).toInt ≤ (τ 0 16).toInt) (n13 : ∀ b : Nat, b < 40 → τ' 16 b ≠ 0 → (b : Int) < (τ 0 16).toInt) : rl_R σ' τ' := by
  obtain ⟨hA, hB, hE, hP, hI⟩ := id h
  obtain ⟨g1, g2, g3, g4, g5, g6, g7, g8, g9, g10, g11, g12, g13, g14, g15, g16, g17, g18⟩ := id hE
  obtain ⟨i1, i2, i3, i4, i5, i6, i7, i8, i9, i10, i11, i12, i13, i14⟩ := hI hb
  refine ⟨rl_A_fr hA (fun k hk => by rw [hs k (by omega) (by omega)]) (by rw [hs 4 (by omega) (by omega)]) (fun j hj2 => hj j (by omega) (by omega)) (fun k k1 k2 => hk k (by omega) (by omega)), rl_B_fr hB (fun j hj2 => hj j (by omega) (by omega)) (hk 2 (by omega) (by omega)), ?_, fun q => rl_P_fr (hP (by rw [← hj 9 (by omega) (by omega)]; exact q)) (by rw [hs 4 (by omega) (by omega)]) (by rw [hs 4 (by omega) (by omega)]) (hs 19 (by omega) (by omega)) (fun j hj2 => hj j (by omega) (by omega)) (fun k hk2 => hk k (by omega) (by omega)), fun _ => ?_⟩
  · unfold rl_E
    rw [hs 5 (by omega) (by omega), hs 6 (by omega) (by omega), hs 8 (by omega) (by omega), hs 25 (by omega) (by omega), hs 26 (by omega) (by omega), hs 20 (by omega) (by omega), hs 21 (by omega) (by omega), hj 15 (by omega) (by omega), hj 23 (by omega) (by omega), hj 24 (by omega) (by omega), hj 34 (by omega) (by omega), hj 35 (by omega) (by omega), hj 36 (by omega) (by omega), hj 37 (by omega) (by omega), hj 33 (by omega) (by omega), hj 31 (by omega) (by omega), hj 27 (by omega) (by omega), hk 14 (by omega) (by omega), hk 15 (by omega) (by omega), hk 6 (by omega) (by omega), hk 7 (by omega) (by omega)]
    refine ⟨g1, g2, g3, g4, g5, g6, g7, g8, g9, q1, q3, g12, q24, g14, g15, g16, g17, fun u hu => ?_⟩
    rw [hs (9 + u) (by omega) (by omega), hk 8 (by omega) (by omega), hk 9 (by omega) (by omega), hk 11 (by omega) (by omega), hk 12 (by omega) (by omega), hk 13 (by omega) (by omega)]; exact g18 u hu
  · have e1 := hj 1 (by omega) (by omega)
    have e2 := hj 2 (by omega) (by omega)
    have hm := rl_many_fr e1 e2
    have hl := fun b => rl_len_fr e1 e2 b
    refine ⟨by rw [hj 15 (by omega) (by omega)]; exact i1, by rw [hj 16 (by omega) (by omega), hm]; exact i2, by rw [s2, hj 5 (by omega) (by omega)]; exact i3, by rw [hj 23 (by omega) (by omega), hj 15 (by omega) (by omega)]; exact i4, by rw [hj 24 (by omega) (by omega), hj 16 (by omega) (by omega)]; exact i5, by rw [hj 16 (by omega) (by omega)]; exact n6, by rw [hj 27 (by omega) (by omega), hj 24 (by omega) (by omega), hk 14 (by omega) (by omega), hk 15 (by omega) (by omega)]; exact i7, fun u hu => rl_T_fr (i8 u hu) (by rw [hs (9 + u) (by omega) (by omega)]; exact ⟨rfl, rfl⟩) (fun j hj2 => hj j (by omega) (by omega)) (fun k hk2 => hk k (by omega) (by omega)), ?_, ?_, ?_, ?_, by rw [hj 16 (by omega) (by omega)]; exact n13, by unfold rl_D; rw [hk 8 (by omega) (by omega), hk 9 (by omega) (by omega), hj 24 (by omega) (by omega)]; exact i14⟩
    · unfold rl_L at i9 ⊢
      rw [hj 33 (by omega) (by omega), hk 8 (by omega) (by omega), hk 17 (by omega) (by omega), hs 23 (by omega) (by omega)]; exact i9
    · rw [hj 33 (by omega) (by omega), hj 31 (by omega) (by omega), hl, hk 9 (by omega) (by omega), hk 17 (by omega) (by omega)]; exact i10
    · rw [hj 34 (by omega) (by omega), hj 35 (by omega) (by omega), hk 8 (by omega) (by omega)]; exact i11
    · rw [hj 31 (by omega) (by omega), hj 4 (by omega) (by omega), rl_sum_fr e1 e2 6 (fun t _ => by rw [hk 8 (by omega) (by omega), hk 9 (by omega) (by omega)]; exact ⟨rfl, fun _ => rfl⟩)]; exact i12
set_option maxHeartbeats 4000000 in
theorem row_lp {nb : Nat} (hnb : nb ≤ 40) {kC : pt_St → Option (Int32 × pt_St)} {kR : pt_St → Int32 → Option (Int32 × pt_St)} {a1 b1 x2 : Int32} : ∀ (d J n nR : Nat) (σ τ : pt_St), J + d = nb → d < n → d < nR → σ 7 3 = nI J → τ 0 30 = nI J → τ 0 16 = nI nb → σ 7 1 = τ 0 29 → σ 24 = τ 16 → (∀ b, b < 40 → τ 16 b ≠ 0 → b < nb) →
    ∃ (σ' τ' : pt_St) (J' : Nat), lp_X4_lay_51 kC a1 n σ = kC σ' ∧ lp_X10_lays_59 kR b1 nR τ x2 = kR τ' x2 ∧ (∀ c, c ≠ 7 → c ≠ 24 → σ' c = σ c) ∧ σ' 7 2 = σ 7 2 ∧ (∀ k, k ≠ 0 → k ≠ 16 → τ' k = τ k) ∧ (∀ j, j ≠ 29 → j ≠ 30 → τ' 0 j = τ 0 j) ∧ σ' 7 1 = τ' 0 29 ∧ σ' 7 3 = nI J' ∧ τ' 0 30 = nI J' ∧ J' ≤ nb ∧ σ' 24 = τ' 16 ∧ (∀ b, b < 40 → τ' 16 b ≠ 0 → b < nb) := by
  intro d
  induction d with
  | zero =>
    intro J n nR σ τ hJ hn hnR h1 h2 h3 h4 h5 h6
    obtain ⟨n, rfl⟩ : ∃ z, n = z + 1 := ⟨n - 1, by omega⟩
    obtain ⟨nR, rfl⟩ : ∃ z, nR = z + 1 := ⟨nR - 1, by omega⟩
    have q : (nI J).toInt = (J : Int) := i_nI (by omega)
    have qn : (nI nb).toInt = (nb : Int) := i_nI (by omega)
    have qc : (nI J).toNatClampNeg = J := nI_clamp (by omega)
    refine ⟨σ, τ, J, ?_, ?_, fun _ _ _ => rfl, rfl, fun _ _ _ => rfl, fun _ _ _ => rfl, h4, h1, h2, by omega, h5, h6⟩
    · rw [lp_X4_lay_51, h1, if_neg (by rw [Int32.lt_iff_toInt_lt, i_0]; omega)]
      by_cases c : 40 ≤ J
      · rw [if_pos (by rw [Int32.le_iff_toInt_le, i_40]; omega)]
      · have z : σ 24 J = 0 := by
          rw [h5]
          by_cases z : τ 16 J = 0
          · exact z
          · have := h6 J (by omega) z; omega
        rw [if_neg (by rw [Int32.le_iff_toInt_le, i_40]; omega), if_pos (nI_in (by omega) (by omega)), qc, if_pos z]
    · rw [lp_X10_lays_59, h2, h3, if_pos (by rw [Int32.le_iff_toInt_le]; omega)]
  | succ d ih =>
    intro J n nR σ τ hJ hn hnR h1 h2 h3 h4 h5 h6
    obtain ⟨n, rfl⟩ : ∃ z, n = z + 1 := ⟨n - 1, by omega⟩
    obtain ⟨nR, rfl⟩ : ∃ z, nR = z + 1 := ⟨nR - 1, by omega⟩
    have q : (nI J).toInt = (J : Int) := i_nI (by omega)
    have qn : (nI nb).toInt = (nb : Int) := i_nI (by omega)
    have qc : (nI J).toNatClampNeg = J := nI_clamp (by omega)
    by_cases z : τ 16 J = 0
    · refine ⟨σ, τ, J, ?_, ?_, fun _ _ _ => rfl, rfl, fun _ _ _ => rfl, fun _ _ _ => rfl, h4, h1, h2, by omega, h5, h6⟩
      · rw [lp_X4_lay_51, h1, if_neg (by rw [Int32.lt_iff_toInt_lt, i_0]; omega), if_neg (by rw [Int32.le_iff_toInt_le, i_40]; omega), if_pos (nI_in (by omega) (by omega)), qc, if_pos (by rw [h5]; exact z)]
      · rw [lp_X10_lays_59, h2, h3, if_neg (by rw [Int32.le_iff_toInt_le]; omega), if_pos (nI_in (by omega) (by omega)), qc, if_pos z]
    · obtain ⟨v, hv⟩ : ∃ x, x = τ 0 29 - 1 := ⟨_, rfl⟩
      obtain ⟨σ1, hσ1⟩ : ∃ x, x = pt_put (pt_put (pt_put σ 24 J 0) 7 1 v) 7 3 (nI (J + 1)) := ⟨_, rfl⟩
      obtain ⟨τ1, hτ1⟩ : ∃ x, x = pt_put (pt_put (pt_put τ 16 J 0) 0 29 v) 0 30 (nI (J + 1)) := ⟨_, rfl⟩
      obtain ⟨σ', τ', J', w1, w2, w3, w4, w5, w6, w7, w8, w9, w10, w11, w12⟩ := ih (J + 1) n nR σ1 τ1 (by omega) (by omega) (by omega) (by rw [hσ1, pt_eq]) (by rw [hτ1, pt_eq]) (by rw [hτ1]; simp (disch := omega) only [pt_ne, pt_nj]; exact h3) (by rw [hσ1, hτ1]; simp (disch := omega) only [pt_nj, pt_eq]) (by
        rw [hσ1, hτ1]; simp (disch := omega) only [pt_ne]
        rw [pt_row, pt_row, if_pos rfl, if_pos rfl, h5]) (fun b hb hz => by
        rw [hτ1] at hz
        simp (disch := omega) only [pt_ne] at hz
        by_cases c : b = J
        · omega
        · rw [pt_nj c] at hz; exact h6 b hb hz)
      refine ⟨σ', τ', J', ?_, ?_, fun c c7 c24 => ?_, ?_, fun k k0 k16 => ?_, fun j j29 j30 => ?_, w7, w8, w9, w10, w11, w12⟩
      · rw [lp_X4_lay_51, h1, if_neg (by rw [Int32.lt_iff_toInt_lt, i_0]; omega), if_neg (by rw [Int32.le_iff_toInt_le, i_40]; omega), if_pos (nI_in (by omega) (by omega)), qc, if_neg (by rw [h5]; exact z), i_nar0, pt_doe, pt_doe, pt_doe, pt_ne (by omega), h4, ← hv]
        rw [show pt_put (pt_put σ 24 J 0) 7 1 v 7 3 = nI J by rw [pt_nj (by omega), pt_ne (by omega), h1], nI_1, ← hσ1]
        exact w1
      · rw [lp_X10_lays_59, h2, h3, if_neg (by rw [Int32.le_iff_toInt_le]; omega), if_pos (nI_in (by omega) (by omega)), qc, if_neg z, i_nar0, pt_doe, pt_doe, pt_doe, pt_ne (by omega), ← hv]
        rw [show pt_put (pt_put τ 16 J 0) 0 29 v 0 30 = nI J by rw [pt_nj (by omega), pt_ne (by omega), h2], nI_1, ← hτ1]
        exact w2
      · rw [w3 c c7 c24, hσ1]; simp (disch := omega) only [pt_ne]
      · rw [w4, hσ1]; simp (disch := omega) only [pt_ne, pt_nj]
      · rw [w5 k k0 k16, hτ1]; simp (disch := omega) only [pt_ne]
      · rw [w6 j j29 j30, hτ1]; simp (disch := omega) only [pt_ne, pt_nj]
