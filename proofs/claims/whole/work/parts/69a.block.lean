/-! ===== a block, all blocks ===== -/
theorem many_R {τ : pt_St} {s z : Nat} (h1 : τ 0 1 = nI s) (h2 : τ 0 2 = nI z) (hs : s ≤ 160) (hz : 4 ≤ z) (hz2 : z ≤ 32) : f_X10_many τ = some (nI ((s + z - 1) / z), τ) := by
  have q : (nI z).toInt = (z : Int) := i_nI (by omega)
  rw [f_X10_many, h1, h2, if_pos (by rw [i_eq, i_0]; omega), nI_add, show (1 : Int32) = nI 1 from rfl, pk_sub (by omega), pk_div (by omega) (by omega) (by omega)]
theorem many_C {σ : pt_St} {s z : Nat} (h1 : σ 1 1 = nI s) (h2 : σ 2 0 = nI z) (hs : s ≤ 160) (hz : 4 ≤ z) (hz2 : z ≤ 32) : f_X2_blocksOfText σ = some (nI ((s + z - 1) / z), σ) := by
  have q : (nI z).toInt = (z : Int) := i_nI (by omega)
  rw [f_X2_blocksOfText, f_X5_size, pt_b2e, h2, if_pos (by rw [Int32.lt_iff_toInt_lt, i_0]; omega), f_X7_length, pt_b2e, h1, if_pos (by rw [i_eq, i_0]; omega), nI_add, show (1 : Int32) = nI 1 from rfl, pk_sub (by omega), pk_div (by omega) (by omega) (by omega)]
theorem len_R {τ : pt_St} {s z b : Nat} (h1 : τ 0 1 = nI s) (h2 : τ 0 2 = nI z) (hs : s ≤ 160) (hz2 : z ≤ 32) (hb : b * z ≤ s) : f_X10_lengthOf τ (nI b) = some (nI (min z (s - b * z)), τ) := by
  have q : (nI z).toInt = (z : Int) := i_nI (by omega)
  have q2 : (nI (s - b * z)).toInt = ((s - b * z : Nat) : Int) := i_nI (by omega)
  rw [f_X10_lengthOf, h1, h2, pk_mul, pk_sub hb]
  by_cases c : z ≤ s - b * z
  · rw [if_pos (by rw [Int32.le_iff_toInt_le]; omega), Nat.min_eq_left c]
  · rw [if_neg (by rw [Int32.le_iff_toInt_le]; omega), Nat.min_eq_right (by omega)]
theorem len_C {σ : pt_St} {s z b : Nat} (h1 : σ 1 1 = nI s) (h2 : σ 2 0 = nI z) (hs : s ≤ 160) (hz : 4 ≤ z) (hz2 : z ≤ 32) (hb : b * z < s) : f_X2_bytesOf σ (nI b) = some (nI (min z (s - b * z)), σ) := by
  have q : (nI z).toInt = (z : Int) := i_nI (by omega)
  have q2 : (nI (s - b * z)).toInt = ((s - b * z : Nat) : Int) := i_nI (by omega)
  rw [f_X2_bytesOf, f_X5_size, pt_b2e, f_X7_length, pt_b2e, h1, h2, pk_mul, pk_sub (by omega)]
  by_cases c : s - b * z < z
  · rw [if_pos (show nI (s - b * z) < nI z by rw [Int32.lt_iff_toInt_lt]; omega), if_pos (by rw [Int32.lt_iff_toInt_lt, i_0]; omega), Nat.min_eq_right (by omega)]
  · rw [if_neg (show ¬ nI (s - b * z) < nI z by rw [Int32.lt_iff_toInt_lt]; omega), if_pos (by rw [Int32.lt_iff_toInt_lt, i_0]; omega), Nat.min_eq_left (by omega)]
set_option maxHeartbeats 4000000 in
theorem block_ok {σ τ : pt_St} {s w z b P : Nat} (hs : σ 1 1 = nI s) (hs' : τ 0 1 = nI s) (h2 : s ≤ 160) (hw : σ 2 1 = nI w) (hw' : τ 0 3 = nI w) (hw2 : w ≤ 64) (hz' : τ 0 2 = nI z) (hz : 4 ≤ z) (hz2 : z ≤ 32) (ht : σ 15 = τ 1) (hb : b < 40) (hbz : b * z < s) (hC : σ 4 5 = nI P) (hR : τ 0 10 = nI P) (hE : ∀ i, i < P → σ 19 i = τ 5 i) (hP : P + min z (s - b * z) + 1 < 240) :
    ∃ (σ' τ' : pt_St) (P' st : Nat), f_X2_packBytes σ (nI (b * z)) (nI (b * z + min z (s - b * z))) = some (nI st, σ') ∧ f_X10_packOne τ (nI b) = some τ' ∧ P ≤ P' ∧ P' ≤ P + min z (s - b * z) + 2 ∧ 1 ≤ st ∧ st ≤ 32 ∧ (∀ c, c ≠ 4 → c ≠ 19 → σ' c = σ c) ∧ (∀ j, j ≠ 5 → j ≠ 7 → σ' 4 j = σ 4 j) ∧ σ' 4 5 = nI P' ∧ (∀ i, i < P' → σ' 19 i = τ' 5 i) ∧
      (∀ c, c ≠ 0 → c ≠ 5 → c ≠ 6 → c ≠ 7 → τ' c = τ c) ∧ (∀ j, j ≠ 10 → τ' 0 j = τ 0 j) ∧ (∀ j, j ≠ b → τ' 7 j = τ 7 j) ∧ (∀ j, j ≠ b → τ' 6 j = τ 6 j) ∧ τ' 0 10 = nI P' ∧ τ' 7 b = nI st ∧ τ' 6 b = nI P' := by
  have hlen := len_R (b := b) hs' hz' h2 hz2 (by omega)
  have hl1 : 1 ≤ min z (s - b * z) ∧ min z (s - b * z) ≤ 32 ∧ b * z + min z (s - b * z) ≤ s := by
    rcases Nat.le_total z (s - b * z) with c | c
    · rw [Nat.min_eq_left c]; omega
    · rw [Nat.min_eq_right c]; omega
  obtain ⟨l1, l2, l3⟩ := hl1
  generalize hlL : min z (s - b * z) = L at *
  have hbc : (nI b).toNatClampNeg = b := nI_clamp (by omega)
  have J0 : pk_J (pt_put σ 4 7 (-1)) (pt_put τ 7 b 0) (pt_put σ 4 7 (-1)) (pt_put τ 7 b 0) b P 0 (b * z) 0 := by
    refine ⟨fun _ _ _ => rfl, fun _ _ _ => rfl, by rw [pt_nj (by omega)]; exact hC, by rw [if_pos rfl, pt_eq], fun i hi => by rw [pt_ne (by omega), pt_ne (by omega)]; exact hE i hi, fun h => absurd h (by omega), fun _ _ _ _ => rfl, fun _ _ => rfl, fun _ _ => rfl, by rw [pt_ne (by omega)]; exact hR, by rw [pt_eq]; rfl⟩
  obtain ⟨σ1, τ1, P1, r1, st1, v1, v2, ⟨j1, j2, j3, j4, j5, j6, j7, j8, j9, j10, j11⟩, v4, v5, v6, v7, v8⟩ := pj_loop (σ0 := pt_put σ 4 7 (-1)) (τ0 := pt_put τ 7 b 0) (s := s) (w := w) (b := b) (e := b * z + L) (fr := b * z) (B := P) (by rw [pt_ne (by omega)]; exact hs) h2 l3 (by rw [pt_ne (by omega)]; exact hw) (by rw [pt_ne (by omega)]; exact hw') hw2 (by rw [pt_ne (by omega), pt_ne (by omega)]; exact ht) hb (by omega) (kC := kx_X2_packBytes_10 (nI (b * z)) (nI (b * z + L))) (kR := kx_X10_packOne_25 (nI b)) (a1 := nI (b * z))
    L (b * z) P 0 0 pt_F pt_F (pt_put σ 4 7 (-1)) (pt_put τ 7 b 0) (by omega) (by omega) (by omega) (by rw [if_pos rfl]; show P + 0 ≤ _; omega) (by omega) J0 (by unfold pt_F; omega) (by unfold pt_F; omega)
  have hQ : P1 + rr_ r1 ≤ P + L + 1 := by
    by_cases hr0 : r1 = 0
    · rw [if_pos hr0] at v5; omega
    · rw [if_neg hr0] at v5; omega
  obtain ⟨τ2, w1, w2, w3, w4, w5⟩ := plain_ok (τ := τ1) (a := b * z + L - r1) (b := b * z + L) (P := P1) (by omega) (by omega) j10 (by
    unfold rr_ at hQ
    by_cases hr0 : r1 = 0
    · rw [if_pos hr0] at hQ; omega
    · rw [if_neg hr0] at hQ; omega)
  have t15 : τ1 1 = τ 1 := by rw [j7 1 (by omega) (by omega) (by omega), pt_ne (by omega)]
  have w6 : τ2 0 10 = nI (P1 + rr_ r1) ∧ ∀ i, i < P1 + rr_ r1 → σ1 19 i = τ2 5 i := by
    rcases w5 with ⟨a1, a2⟩ | ⟨a1, a2, a3, a4⟩
    · have hr0 : r1 = 0 := by omega
      subst hr0
      rw [a2]
      exact ⟨j10, fun i hi => j5 i hi⟩
    · have hr0 : r1 ≠ 0 := by omega
      have er : rr_ r1 = r1 + 1 := if_neg hr0
      rw [er]
      obtain ⟨k1, k2⟩ := j6 (by omega)
      have epr : b * z + L - (b * z + L - r1) = r1 := by omega
      rw [epr] at a2 a3 a4
      refine ⟨by rw [a2]; congr 1; omega, fun i hi => ?_⟩
      by_cases i1 : i < P1
      · rw [w4 i i1]; exact j5 i i1
      · by_cases i2 : i = P1
        · subst i2; rw [a3, k1]
        · have a5 := a4 (i - P1 - 1) (by omega)
          rw [show P1 + 1 + (i - P1 - 1) = i by omega, t15] at a5
          have k3 := k2 (i - P1 - 1) (by omega)
          rw [show P1 + 1 + (i - P1 - 1) = i by omega, pt_ne (by omega)] at k3
          rw [a5, k3]
  obtain ⟨w7, w8⟩ := w6
  generalize hQQ : P1 + rr_ r1 = Q at *
  refine ⟨pt_put (pt_put σ1 19 Q 0) 4 5 (nI (Q + 1)), pt_put (pt_put (pt_put τ2 5 Q 0) 0 10 (nI (Q + 1))) 6 b (nI (Q + 1)), Q + 1, st1, ?_, ?_, by omega, by omega, by have := v7.2 (by omega); omega, by omega, ?_, ?_, pt_eq, ?_, ?_, ?_, ?_, ?_, ?_, ?_, pt_eq⟩
  · unfold f_X2_packBytes
    rw [pt_doe, show (0 : Int32) = nI 0 from rfl, v1]
    unfold kx_X2_packBytes_10
    rw [put_ok _ j3 (by omega), pt_b1e]
    rfl
  · unfold f_X10_packOne
    rw [hlen, pt_b2e, if_pos (nI_in hb (by omega)), hbc, hz', pk_mul, nI_add, pt_doe]
    have v2' : lp_X10_packOne_25 (kx_X10_packOne_25 (nI b)) (nI b) pt_F (pt_put τ 7 b 0) (nI (b * z)) (nI (b * z + L)) (nI (b * z)) = _ := v2
    rw [v2']
    unfold kx_X10_packOne_25
    rw [w1, pt_b1e, lay_ok _ w7 (by omega), pt_b1e, if_pos (nI_in hb (by omega)), hbc, pt_doe, pt_eq]
  · intro c c4 c19
    rw [pt_ne c4, pt_ne c19, j1 c c4 c19, pt_ne c4]
  · intro j h5 h7
    rw [pt_nj h5, pt_ne (by omega), j2 j h5 h7, pt_nj h7]
  · intro i hi
    simp (disch := omega) only [pt_ne]
    by_cases i1 : i = Q
    · subst i1; rw [pt_eq, pt_eq]
    · rw [pt_nj i1, pt_nj i1]; exact w8 i (by omega)
  · intro c c0 c5 c6 c7
    rw [pt_ne c6, pt_ne c0, pt_ne c5, w2 c c0 c5, j7 c c0 c5 c7, pt_ne c7]
  · intro j hj
    rw [pt_ne (by omega), pt_nj hj, pt_ne (by omega), w3 j hj, j8 j hj, pt_ne (by omega)]
  · intro j hj
    rw [pt_ne (by omega), pt_ne (by omega), pt_ne (by omega), w2 7 (by omega) (by omega), j9 j hj, pt_nj hj]
  · intro j hj
    rw [pt_nj hj, pt_ne (by omega), pt_ne (by omega), w2 6 (by omega) (by omega), j7 6 (by omega) (by omega) (by omega), pt_ne (by omega)]
  · rw [pt_ne (by omega), pt_eq]
  · rw [pt_ne (by omega), pt_ne (by omega), pt_ne (by omega), w2 7 (by omega) (by omega), j11]
