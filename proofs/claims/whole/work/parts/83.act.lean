/-! ===== a turn ===== -/
theorem pt_same {σ : pt_St} {k j : Nat} {v : Int32} (h : σ k j = v) : pt_put σ k j v = σ := by
  funext k' j'
  rw [pt_pk]
  by_cases c : k' = k
  · subst c
    rw [if_pos rfl]
    by_cases c2 : j' = j
    · subst c2; rw [if_pos rfl, h]
    · rw [if_neg c2]
  · rw [if_neg c]
/-- the latest turn, and how many, alone are changed -/
theorem lat_upd {σ τ σ' τ' : pt_St} (h : rl_R σ τ) (hb : τ 0 14 = 1) (hs : ∀ c, c ≠ 5 → σ' c = σ c) (s5 : ∀ j, j ≠ 7 → j ≠ 12 → σ' 5 j = σ 5 j) (hk : ∀ k, k ≠ 0 → τ' k = τ k) (hj : ∀ j, j ≠ 23 → j ≠ 37 → τ' 0 j = τ 0 j) (q7 : σ' 5 7 = τ' 0 23) (q12 : σ' 5 12 = τ' 0 37) (n4 : -1 ≤ (τ' 0 23).toInt ∧ (τ' 0 23).toInt < (τ 0 15).toInt) : rl_R σ' τ' := by
  obtain ⟨hA, hB, hE, hP, hI⟩ := id h
  obtain ⟨e1, e2, e3, e4, e5, e6, e7, e8, e9, e10, e11⟩ := id hA
  obtain ⟨b1, b2, b3, b4, b5, b6, b7, b8, b9, b10, b11, b12, b13, b14⟩ := id hB
  obtain ⟨g1, g2, g3, g4, g5, g6, g7, g8, g9, g10, g11, g12, g13, g14, g15, g16, g17, g18⟩ := id hE
  obtain ⟨i1, i2, i3, i4, i5, i6, i7, i8, i9, i10, i11, i12, i13, i14⟩ := hI hb
  refine ⟨rl_A_fr hA (fun k hk => hs k (by omega)) (by rw [hs 4 (by omega)]) (fun j hj2 => hj j (by omega) (by omega)) (fun k k1 k2 => hk k (by omega)), rl_B_fr hB (fun j hj2 => hj j (by omega) (by omega)) (hk 2 (by omega)), ?_, fun q => rl_P_fr (hP (by rw [← hj 9 (by omega) (by omega)]; exact q)) (by rw [hs 4 (by omega)]) (by rw [hs 4 (by omega)]) (hs 19 (by omega)) (fun j hj2 => hj j (by omega) (by omega)) (fun k hk2 => hk k (by omega)), fun _ => ?_⟩
  · unfold rl_E
    rw [s5 6 (by omega) (by omega), s5 8 (by omega) (by omega), s5 9 (by omega) (by omega), s5 10 (by omega) (by omega), s5 11 (by omega) (by omega), hs 6 (by omega), hs 7 (by omega), hs 8 (by omega), hs 24 (by omega), hs 25 (by omega), hs 26 (by omega), hs 20 (by omega), hs 21 (by omega), hj 15 (by omega) (by omega), hj 24 (by omega) (by omega), hj 34 (by omega) (by omega), hj 35 (by omega) (by omega), hj 36 (by omega) (by omega), hj 33 (by omega) (by omega), hj 31 (by omega) (by omega), hj 29 (by omega) (by omega), hj 30 (by omega) (by omega), hj 27 (by omega) (by omega), hk 14 (by omega), hk 15 (by omega), hk 16 (by omega), hk 6 (by omega), hk 7 (by omega)]
    refine ⟨g1, q7, g3, g4, g5, g6, q12, g8, g9, g10, g11, g12, g13, g14, g15, g16, g17, fun u hu => ?_⟩
    rw [hs (9 + u) (by omega), hk 8 (by omega), hk 9 (by omega), hk 11 (by omega), hk 12 (by omega), hk 13 (by omega)]; exact g18 u hu
  · have e1 := hj 1 (by omega) (by omega)
    have e2 := hj 2 (by omega) (by omega)
    have hm := rl_many_fr e1 e2
    have hl := fun b => rl_len_fr e1 e2 b
    refine ⟨by rw [hj 15 (by omega) (by omega)]; exact i1, by rw [hj 16 (by omega) (by omega), hm]; exact i2, by rw [hs 7 (by omega), hj 5 (by omega) (by omega)]; exact i3, by rw [hj 15 (by omega) (by omega)]; exact n4, by rw [hj 24 (by omega) (by omega), hj 16 (by omega) (by omega)]; exact i5, by rw [hj 30 (by omega) (by omega), hj 16 (by omega) (by omega)]; exact i6, by rw [hj 27 (by omega) (by omega), hj 24 (by omega) (by omega), hk 14 (by omega), hk 15 (by omega)]; exact i7, fun u hu => rl_T_fr (i8 u hu) (by rw [hs (9 + u) (by omega)]; exact ⟨rfl, rfl⟩) (fun j hj2 => hj j (by omega) (by omega)) (fun k hk2 => hk k (by omega)), ?_, ?_, ?_, ?_, by rw [hj 16 (by omega) (by omega), hk 16 (by omega)]; exact i13, by unfold rl_D; rw [hk 8 (by omega), hk 9 (by omega), hj 24 (by omega) (by omega)]; exact i14⟩
    · unfold rl_L at i9 ⊢
      rw [hj 33 (by omega) (by omega), hk 8 (by omega), hk 17 (by omega), hs 23 (by omega)]; exact i9
    · rw [hj 33 (by omega) (by omega), hj 31 (by omega) (by omega), hl, hk 9 (by omega), hk 17 (by omega)]; exact i10
    · rw [hj 34 (by omega) (by omega), hj 35 (by omega) (by omega), hk 8 (by omega)]; exact i11
    · rw [hj 31 (by omega) (by omega), hj 4 (by omega) (by omega), rl_sum_fr e1 e2 6 (fun t _ => by rw [hk 8 (by omega), hk 9 (by omega)]; exact ⟨rfl, fun _ => rfl⟩)]; exact i12
/-- counted, where it did something -/
theorem cnt_ok {σ τ : pt_St} (h : rl_R σ τ) (hb : τ 0 14 = 1) : rl_R (pt_put σ 5 12 (σ 5 12 + 1)) (pt_put τ 0 37 (τ 0 37 + 1)) ∧ (pt_put τ 0 37 (τ 0 37 + 1)) 0 14 = 1 := by
  have g7 := h.2.2.1.2.2.2.2.2.2.1
  have i4 := (h.2.2.2.2 hb).2.2.2.1
  refine ⟨lat_upd h hb (fun c hc => pt_ne hc) (fun j j7 j12 => pt_nj j12) (fun k hk => pt_ne hk) (fun j j1 j2 => pt_nj j2) ?_ ?_ ?_, by rw [pt_nj (by omega)]; exact hb⟩
  · rw [pt_nj (by omega), pt_nj (by omega)]; exact h.2.2.1.2.1
  · rw [pt_eq, pt_eq, g7]
  · rw [pt_nj (by omega)]; exact i4
theorem leave_no {τ : pt_St} {a1 : Int32} (h : τ 0 33 = 0) : f_X10_leaves τ a1 = some τ := by
  rw [f_X10_leaves, show pt_F = 999 + 1 from rfl, lp_X10_leaves_4, h, if_pos (by decide), kx_X10_leaves_4, pt_doe, pt_same h]
set_option maxHeartbeats 4000000 in
theorem sm_hold {σ τ : pt_St} {t : Nat} (h : rl_R σ τ) (hb : τ 0 14 = 1) (ht : t < 6) (htt : (t : Int) < (τ 0 15).toInt) (h3 : τ 8 t = 3) : ∃ r σ' τ', (r = 0 ∨ r = 1) ∧ f_X6_doHolding σ (nI t) = some (r, σ') ∧ (pt_b2 (f_X10_isStopped τ) fun r12 σ12 => if r12 = 0 then (if σ12 8 t = 3 then pt_b2 (f_X10_lays σ12 (nI t)) fun r15 σ15 => pt_do (pt_put σ15 0 37 (σ15 0 37 + r15)) fun σ16 => some (r15, σ16) else pt_do (pt_put σ12 0 37 (σ12 0 37 + 0)) fun σ17 => some ((0 : Int32), σ17)) else pt_b1 (f_X10_leaves σ12 (nI t)) fun σ18 => pt_b1 (f_X10_ends σ18 (nI t)) fun σ19 => pt_do (pt_put σ19 0 37 (σ19 0 37 + 1)) fun σ20 => some ((1 : Int32), σ20)) = some (r, pt_put τ' 0 37 (τ' 0 37 + r)) ∧ rl_R σ' τ' ∧ τ' 0 14 = 1 := by
  obtain ⟨hA, hB, hE, hP, hI⟩ := id h
  obtain ⟨e1, e2, e3, e4, e5, e6, e7, e8, e9, e10, e11⟩ := id hA
  obtain ⟨b1, b2, b3, b4, b5, b6, b7, b8, b9, b10, b11, b12, b13, b14⟩ := id hB
  obtain ⟨g1, g2, g3, g4, g5, g6, g7, g8, g9, g10, g11, g12, g13, g14, g15, g16, g17, g18⟩ := id hE
  obtain ⟨i1, i2, i3, i4, i5, i6, i7, i8, i9, i10, i11, i12, i13, i14⟩ := id (hI hb)
  rcases i11 with c | ⟨c1, c2, c3⟩
  · obtain ⟨r, σ', τ', w0, w1, w2, w3, w4⟩ := sm_lay h hb ht h3
    refine ⟨r, σ', τ', w0, ?_, ?_, w3, by rw [w4 14 (by omega) (by omega)]; exact hb⟩
    · rw [f_X6_doHolding, f_X6_hasStopped, g4, if_pos c.1, pt_b2e, if_pos rfl, w1, pt_b2e, if_pos w0]
    · rw [f_X10_isStopped, c.2, if_pos (by decide), pt_b2e, if_pos rfl, if_pos h3, w2, pt_b2e, pt_doe]
  · obtain ⟨σe, τe, n1, n2, n3, n4⟩ := end_ok h hb ht htt (by rw [h3]; exact ⟨by decide, by decide⟩)
    have hm0 : τ 0 33 = 0 := by
      have l1 := i9.1
      by_cases q : 0 < (τ 0 33).toInt
      · obtain ⟨-, u, u2, u3, u4⟩ := i9.2.2.1 0 (by omega)
        exact absurd u4 (c3 u u2).1
      · rw [i_eq, i_0]; omega
    refine ⟨1, σe, τe, Or.inr rfl, ?_, ?_, n3, by rw [n4]; exact hb⟩
    · rw [f_X6_doHolding, f_X6_hasStopped, g4, if_neg (by rw [i_eq, i_m1]; omega), pt_b2e, if_neg (by decide), n1, pt_b1e]
    · rw [f_X10_isStopped, if_neg (by rw [Int32.le_iff_toInt_le, i_0]; omega), pt_b2e, if_neg (by decide), leave_no hm0, pt_b1e, n2, pt_b1e, pt_doe]
set_option maxHeartbeats 4000000 in
theorem sm_act {σ τ : pt_St} {t : Nat} (h : rl_R σ τ) (hb : τ 0 14 = 1) (ht : t < 6) (htt : (t : Int) < (τ 0 15).toInt) : ∃ r σ' τ', (r = 0 ∨ r = 1) ∧ f_X6_giveTurn σ (nI t) = some (r, σ') ∧ f_X10_act τ (nI t) = some (r, τ') ∧ rl_R σ' τ' ∧ τ' 0 14 = 1 := by
  have g1 := h.2.2.1.1
  have qt : (nI t).toNatClampNeg = t := nI_clamp (by omega)
  have qti : (nI t).toInt = (t : Int) := i_nI (by omega)
  have hin : pt_in (nI t) 6 := nI_in ht (by omega)
  have hiw : pt_iw (nI t) := nI_in ht (by omega)
  have hwk : f_X6_worker σ (nI t) = some (nI t, σ) := by
    rw [f_X6_worker, if_neg (by rw [Int32.lt_iff_toInt_lt, i_0]; omega), if_neg (by rw [Int32.le_iff_toInt_le, g1]; omega), if_neg (by rw [Int32.le_iff_toInt_le, i_6]; omega), if_pos hin]
  obtain ⟨σ1, hσ1⟩ : ∃ x, x = pt_put σ 5 7 (nI t) := ⟨_, rfl⟩
  obtain ⟨τ1, hτ1⟩ : ∃ x, x = pt_put τ 0 23 (nI t) := ⟨_, rfl⟩
  have h1 : rl_R σ1 τ1 := by
    refine lat_upd h hb (fun c hc => by rw [hσ1, pt_ne hc]) (fun j j7 j12 => by rw [hσ1, pt_nj j7]) (fun k hk => by rw [hτ1, pt_ne hk]) (fun j j1 j2 => by rw [hτ1, pt_nj j1]) ?_ ?_ ?_
    · rw [hσ1, hτ1, pt_eq, pt_eq]
    · rw [hσ1, hτ1, pt_nj (by omega), pt_nj (by omega)]; exact h.2.2.1.2.2.2.2.2.2.1
    · rw [hτ1, pt_eq, qti]; omega
  have hb1 : τ1 0 14 = 1 := by rw [hτ1, pt_nj (by omega)]; exact hb
  have htt1 : (t : Int) < (τ1 0 15).toInt := by rw [hτ1, pt_nj (by omega)]; exact htt
  obtain ⟨hA, hB, hE, hP, hI⟩ := id h1
  obtain ⟨i1, i2, i3, i4, i5, i6, i7, i8, i9, i10, i11, i12, i13, i14⟩ := id (hI hb1)
  have y1 := (hE.2.2.2.2.2.2.2.2.2.2.2.2.2.2.2.2.2 t ht).2.1
  have hst := (i8 t ht).1
  have C : f_X6_giveTurn σ (nI t) = (if τ1 8 t = 0 then pt_b2 (f_X6_doFree σ1 (nI t)) fun r5 σ5 => (if r5 = 0 then (if r5 = 0 ∨ r5 = 1 then some (r5, σ5) else none) else pt_do (pt_put σ5 5 12 (σ5 5 12 + 1)) fun σ8 => if r5 = 0 ∨ r5 = 1 then some (r5, σ8) else none) else if τ1 8 t = 1 then some ((0 : Int32), σ1) else if τ1 8 t = 2 then pt_b2 (f_X6_doWork σ1 (nI t)) fun r5 σ5 => (if r5 = 0 then (if r5 = 0 ∨ r5 = 1 then some (r5, σ5) else none) else pt_do (pt_put σ5 5 12 (σ5 5 12 + 1)) fun σ8 => if r5 = 0 ∨ r5 = 1 then some (r5, σ8) else none) else if τ1 8 t = 3 then pt_b2 (f_X6_doHolding σ1 (nI t)) fun r5 σ5 => (if r5 = 0 then (if r5 = 0 ∨ r5 = 1 then some (r5, σ5) else none) else pt_do (pt_put σ5 5 12 (σ5 5 12 + 1)) fun σ8 => if r5 = 0 ∨ r5 = 1 then some (r5, σ8) else none) else some ((0 : Int32), σ1)) := by
    rw [f_X6_giveTurn, hwk, pt_b2e, if_pos hiw, pt_doe, qt, ← hσ1, y1]
  have R : f_X10_act τ (nI t) = (if τ1 8 t = 0 then pt_b2 (f_X10_free τ1 (nI t)) fun r4 σ4 => pt_do (pt_put σ4 0 37 (σ4 0 37 + r4)) fun σ5 => some (r4, σ5) else if τ1 8 t = 2 then pt_b2 (f_X10_work τ1 (nI t)) fun r7 σ7 => pt_do (pt_put σ7 0 37 (σ7 0 37 + r7)) fun σ8 => some (r7, σ8) else if τ1 8 t = 4 then pt_do (pt_put τ1 0 37 (τ1 0 37 + 0)) fun σ11 => some ((0 : Int32), σ11) else (pt_b2 (f_X10_isStopped τ1) fun r12 σ12 => if r12 = 0 then (if σ12 8 t = 3 then pt_b2 (f_X10_lays σ12 (nI t)) fun r15 σ15 => pt_do (pt_put σ15 0 37 (σ15 0 37 + r15)) fun σ16 => some (r15, σ16) else pt_do (pt_put σ12 0 37 (σ12 0 37 + 0)) fun σ17 => some ((0 : Int32), σ17)) else pt_b1 (f_X10_leaves σ12 (nI t)) fun σ18 => pt_b1 (f_X10_ends σ18 (nI t)) fun σ19 => pt_do (pt_put σ19 0 37 (σ19 0 37 + 1)) fun σ20 => some ((1 : Int32), σ20))) := by
    rw [f_X10_act, pt_doe, ← hτ1, if_pos hin, qt]
  have same : ∀ x : pt_St, pt_put x 0 37 (x 0 37 + 0) = x := fun x => pt_same (by rw [Int32.add_zero])
  have n10 : ¬ (1 : Int32) = 0 := by decide
  -- how a turn ends
  have fin : ∀ (r : Int32) (σ' τ' : pt_St), (r = 0 ∨ r = 1) → rl_R σ' τ' → τ' 0 14 = 1 → ∃ σ2, (if r = 0 then (if r = 0 ∨ r = 1 then some (r, σ') else none) else pt_do (pt_put σ' 5 12 (σ' 5 12 + 1)) fun σ8 => if r = 0 ∨ r = 1 then some (r, σ8) else none) = some (r, σ2) ∧ rl_R σ2 (pt_put τ' 0 37 (τ' 0 37 + r)) ∧ (pt_put τ' 0 37 (τ' 0 37 + r)) 0 14 = 1 := fun r σ' τ' hr hR h14 => by
    rcases hr with hr | hr
    · subst hr
      refine ⟨σ', ?_, ?_, ?_⟩
      · rw [if_pos rfl, if_pos (Or.inl rfl)]
      · rw [same]; exact hR
      · rw [same]; exact h14
    · subst hr
      obtain ⟨q1, q2⟩ := cnt_ok hR h14
      refine ⟨_, ?_, q1, q2⟩
      rw [if_neg n10, pt_doe, if_pos (Or.inr rfl)]
  by_cases c0 : τ1 8 t = 0
  · obtain ⟨r, σ', τ', w0, w1, w2, w3, w4⟩ := sm_free h1 hb1 ht htt1 c0
    obtain ⟨σ2, f1, f2, f3⟩ := fin r σ' τ' w0 w3 w4
    exact ⟨r, σ2, _, w0, by rw [C, if_pos c0, w1, pt_b2e]; exact f1, by rw [R, if_pos c0, w2, pt_b2e, pt_doe], f2, f3⟩
  · by_cases c2 : τ1 8 t = 2
    · obtain ⟨σ', τ', w1, w2, w3, w4⟩ := sm_work h1 hb1 ht c2
      obtain ⟨σ2, f1, f2, f3⟩ := fin 1 σ' τ' (Or.inr rfl) w3 w4
      exact ⟨1, σ2, _, Or.inr rfl, by rw [C, if_neg c0, if_neg (by rw [c2]; decide), if_pos c2, w1, pt_b2e]; exact f1, by rw [R, if_neg c0, if_pos c2, w2, pt_b2e, pt_doe], f2, f3⟩
    · by_cases c3 : τ1 8 t = 3
      · obtain ⟨r, σ', τ', w0, w1, w2, w3, w4⟩ := sm_hold h1 hb1 ht htt1 c3
        obtain ⟨σ2, f1, f2, f3⟩ := fin r σ' τ' w0 w3 w4
        exact ⟨r, σ2, _, w0, by rw [C, if_neg c0, if_neg (by rw [c3]; decide), if_neg c2, if_pos c3, w1, pt_b2e]; exact f1, by rw [R, if_neg c0, if_neg c2, if_neg (by rw [c3]; decide)]; exact w2, f2, f3⟩
      · refine ⟨0, σ1, τ1, Or.inl rfl, ?_, ?_, h1, hb1⟩
        · rw [C, if_neg c0, if_neg c2, if_neg c3]
          by_cases c1 : τ1 8 t = 1
          · rw [if_pos c1]
          · rw [if_neg c1]
        · rw [R, if_neg c0, if_neg c2, same]
          by_cases c4 : τ1 8 t = 4
          · rw [if_pos c4, pt_doe]
          · rw [if_neg c4]
            have c1 : τ1 8 t = 1 := by
              rw [i_eq, i_1]
              rw [i_eq, i_0] at c0
              rw [i_eq, i_2] at c2
              rw [i_eq, i_3] at c3
              rw [i_eq, i_4] at c4
              omega
            have hs : τ1 0 35 = 0 := by
              rcases i11 with q | ⟨-, -, q⟩
              · exact q.2
              · exact absurd c1 (q t ht).1
            rw [f_X10_isStopped, hs, if_pos (by decide), pt_b2e, if_pos rfl, if_neg c3, same, pt_doe]
theorem sm_turn {σ τ : pt_St} {a1 : Int32} (h : rl_R σ τ) : ∃ (r : Int32) (σ' τ' : pt_St), f_X9_turn σ a1 = some (r, σ') ∧ f_X10_turn τ a1 = some (r, τ') ∧ rl_R σ' τ' := by
  have e10 : σ 0 5 = τ 0 14 := h.1.2.2.2.2.2.2.2.2.2.1
  have n10 : ¬ (1 : Int32) = 0 := by decide
  rcases rl_bg h.2.1 with hb | hb
  · rcases sm_thr0 h hb a1 with ⟨w1, w2⟩ | ⟨w1, w2⟩
    · exact ⟨-3, σ, τ, by rw [f_X9_turn, w1, pt_b2e, if_neg n10, e10, hb, if_pos rfl], by rw [f_X10_turn, w2, pt_b2e, if_neg n10, hb, if_pos rfl], h⟩
    · exact ⟨-2, σ, τ, by rw [f_X9_turn, w1, pt_b2e, if_pos rfl], by rw [f_X10_turn, w2, pt_b2e, if_pos rfl], h⟩
  · rcases sm_thr h hb a1 with ⟨t, t1, t2, t3, t4, t5, w1, w2⟩ | ⟨w1, w2⟩
    · obtain ⟨r, σ', τ', x0, x1, x2, x3, x4⟩ := sm_act h hb t1 t2
      refine ⟨r, σ', τ', ?_, ?_, x3⟩
      · rw [f_X9_turn, w1, pt_b2e, if_neg n10, e10, hb, if_neg n10, t3, x1, pt_b2e]
        rcases x0 with x0 | x0
        · rw [x0, if_pos rfl]
        · rw [x0, if_neg n10]
      · rw [f_X10_turn, w2, pt_b2e, if_neg n10, hb, if_neg n10, t3, x2, pt_b2e]
    · exact ⟨-2, σ, τ, by rw [f_X9_turn, w1, pt_b2e, if_pos rfl], by rw [f_X10_turn, w2, pt_b2e, if_pos rfl], h⟩
