/-- what class and reference agree on of those waiting: m of them, by numbers q, with lengths L -/
def gb_H (σ τ : pt_St) (m : Nat) (q : Nat → Nat) (L : Nat → Nat) : Prop :=
  m ≤ 6 ∧ σ 6 2 = τ 0 31 ∧ σ 6 1 = nI m ∧ τ 0 33 = nI m ∧ (∀ i, i < m → q i < 6 ∧ σ 23 i = nI (q i) ∧ τ 17 i = nI (q i) ∧ τ 8 (q i) = 1 ∧ σ (9 + q i) 4 = nI (L (q i)) ∧ L (q i) ≤ 32 ∧ f_X10_lengthOf τ (τ 9 (q i)) = some (nI (L (q i)), τ)) ∧ (∀ i j, i < m → j < m → q i = q j → i = j)
/-- the lengths of those that begin, together -/
def gs_ (G : Nat → Bool) (L : Nat → Nat) : Nat → Int
  | 0 => 0
  | n + 1 => gs_ G L n + (if G n = true then (L n : Int) else 0)
theorem gs_no (L : Nat → Nat) : ∀ n, gs_ (fun _ => false) L n = 0
  | 0 => rfl
  | n + 1 => by simp only [gs_]; rw [gs_no L n]; simp
theorem gs_up (G : Nat → Bool) (L : Nat → Nat) (u : Nat) (hu : G u = false) : ∀ n, gs_ (fun v => v == u || G v) L n = gs_ G L n + (if u < n then (L u : Int) else 0)
  | 0 => by simp [gs_]
  | n + 1 => by
    simp only [gs_]
    rw [gs_up G L u hu n]
    by_cases c : n = u
    · subst c
      simp [hu]
    · by_cases c2 : u < n
      · simp [c, c2, show u < n + 1 by omega]; omega
      · simp [c, c2, show ¬ u < n + 1 by omega]
/-- what it comes to -/
def gb_Q (σ τ σ' τ' : pt_St) (m : Nat) (q : Nat → Nat) (L : Nat → Nat) (m' : Nat) (G : Nat → Bool) : Prop :=
  (∀ c, c ≠ 6 → c ≠ 23 → (c < 9 ∨ 14 < c) → σ' c = σ c) ∧ (∀ u j, u < 6 → j ≠ 1 → j ≠ 3 → σ' (9 + u) j = σ (9 + u) j) ∧ (∀ k, k ≠ 0 → k ≠ 8 → k ≠ 10 → k ≠ 17 → τ' k = τ k) ∧ (∀ j, j ≠ 31 → j ≠ 33 → τ' 0 j = τ 0 j) ∧
  (∀ u, u < 6 → G u = true → τ 8 u = 1 ∧ τ' 8 u = 2 ∧ τ' 10 u = 0 ∧ σ' (9 + u) 1 = 2 ∧ σ' (9 + u) 3 = 0) ∧ (∀ u, u < 6 → G u = false → τ' 8 u = τ 8 u ∧ τ' 10 u = τ 10 u ∧ σ' (9 + u) 1 = σ (9 + u) 1 ∧ σ' (9 + u) 3 = σ (9 + u) 3) ∧
  m' ≤ m ∧ σ' 6 1 = nI m' ∧ τ' 0 33 = nI m' ∧ σ' 6 2 = τ' 0 31 ∧ (∀ i, i < m' → σ' 23 i = nI (q (i + (m - m'))) ∧ τ' 17 i = nI (q (i + (m - m')))) ∧ (∀ i, i < m - m' → G (q i) = true) ∧ (∀ i, m - m' ≤ i → i < m → G (q i) = false) ∧ (∀ u, G u = true → ∃ i, i < m - m' ∧ q i = u) ∧ (0 < m' → (τ' 0 31).toInt < (L (q (m - m')) : Int)) ∧ 0 ≤ (τ' 0 31).toInt ∧ (τ' 0 31).toInt + gs_ G L 6 = (τ 0 31).toInt
theorem gb_nil {σ τ : pt_St} {m : Nat} {q L : Nat → Nat} (h : gb_H σ τ m q L) (h0 : 0 ≤ (τ 0 31).toInt) (hg : 0 < m → (τ 0 31).toInt < (L (q 0) : Int)) : gb_Q σ τ σ τ m q L m (fun _ => false) := by
  obtain ⟨h1, h2, h3, h4, h5, h6⟩ := h
  refine ⟨fun _ _ _ _ => rfl, fun _ _ _ _ _ => rfl, fun _ _ _ _ _ => rfl, fun _ _ _ => rfl, fun u _ hu => absurd hu (by simp), fun _ _ _ => ⟨rfl, rfl, rfl, rfl⟩, Nat.le_refl m, h3, h4, h2, fun i hi => ?_, fun i hi => absurd hi (by omega), fun _ _ _ => rfl, fun u hu => absurd hu (by simp), fun hm => ?_, h0, by rw [gs_no]; omega⟩
  · rw [show i + (m - m) = i by omega]
    exact ⟨(h5 i hi).2.1, (h5 i hi).2.2.1⟩
  · rw [show m - m = 0 by omega]; exact hg hm
theorem len_fr {τ τ' : pt_St} {x r : Int32} (h1 : τ' 0 1 = τ 0 1) (h2 : τ' 0 2 = τ 0 2) (h : f_X10_lengthOf τ x = some (r, τ)) : f_X10_lengthOf τ' x = some (r, τ') := by
  unfold f_X10_lengthOf at h ⊢
  rw [h1, h2]
  by_cases c : τ 0 2 ≤ τ 0 1 - x * τ 0 2
  · rw [if_pos c] at h ⊢
    rw [(pt_pr h).1]
  · rw [if_neg c] at h ⊢
    rw [(pt_pr h).1]
set_option maxHeartbeats 4000000 in
theorem gb_lp {a1 b1 : Int32} {L : Nat → Nat} : ∀ (m n nR : Nat) (q : Nat → Nat) (σ τ : pt_St), gb_H σ τ m q L → 0 ≤ (τ 0 31).toInt → (τ 0 31).toInt ≤ 1000 → m < n → m < nR → ∃ (σ' τ' : pt_St) (m' : Nat) (G : Nat → Bool), lp_X1_giveBack_15 (kx_X1_giveBack_15 a1) a1 n σ (nI m) = some σ' ∧ lp_X10_givesBack_10 (kx_X10_givesBack_10 b1) b1 nR τ = some τ' ∧ gb_Q σ τ σ' τ' m q L m' G := by
  intro m
  induction m with
  | zero =>
    intro n nR q σ τ h h0 h00 hn hnR
    obtain ⟨n, rfl⟩ : ∃ z, n = z + 1 := ⟨n - 1, by omega⟩
    obtain ⟨nR, rfl⟩ : ∃ z, nR = z + 1 := ⟨nR - 1, by omega⟩
    refine ⟨σ, τ, 0, fun _ => false, ?_, ?_, gb_nil h h0 (fun q => absurd q (by omega))⟩
    · rw [lp_X1_giveBack_15, if_pos (by decide), kx_X1_giveBack_15]
    · rw [lp_X10_givesBack_10, h.2.2.2.1, if_pos (by decide), kx_X10_givesBack_10]
  | succ m ih =>
    intro n nR q σ τ h h0 h00 hn hnR
    obtain ⟨n, rfl⟩ : ∃ z, n = z + 1 := ⟨n - 1, by omega⟩
    obtain ⟨nR, rfl⟩ : ∃ z, nR = z + 1 := ⟨nR - 1, by omega⟩
    obtain ⟨h1, h2, h3, h4, h5, h6⟩ := id h
    have e0 : (0 : Int32).toNatClampNeg = 0 := by decide
    obtain ⟨u1, u2, u3, u4, u5, u6, u7⟩ := h5 0 (by omega)
    have qm : (nI (m + 1)).toInt = ((m + 1 : Nat) : Int) := i_nI (by omega)
    have qu : (nI (q 0)).toNatClampNeg = q 0 := nI_clamp (by omega)
    have qL : (nI (L (q 0))).toInt = (L (q 0) : Int) := i_nI (by omega)
    have hiw : pt_iw (nI (q 0)) := nI_in u1 (by omega)
    have C1 : lp_X1_giveBack_15 (kx_X1_giveBack_15 a1) a1 (n + 1) σ (nI (m + 1)) = (if nI (L (q 0)) ≤ τ 0 31 then pt_b1 (f_X1_dropFirst σ) fun σ16004 => pt_do (pt_put σ16004 6 2 (σ16004 6 2 - σ16004 (9 + q 0) 4)) fun σ16005 => pt_b1 (f_X8_startWork σ16005 (nI (q 0))) fun σ16006 => lp_X1_giveBack_15 (kx_X1_giveBack_15 a1) a1 n σ16006 (nI (m + 1) + (-1)) else some σ) := by
      rw [lp_X1_giveBack_15, if_neg (by rw [Int32.le_iff_toInt_le, i_0]; omega)]
      simp only [e0]
      rw [u2, if_pos hiw, qu, u5, h2]
    have R1 : lp_X10_givesBack_10 (kx_X10_givesBack_10 b1) b1 (nR + 1) τ = (if τ 0 31 < nI (L (q 0)) then some τ else pt_b1 (f_X10_leaves τ (τ 17 0)) fun σ11005 => pt_b1 (f_X10_works σ11005 (nI (q 0))) fun σ11006 => lp_X10_givesBack_10 (kx_X10_givesBack_10 b1) b1 nR σ11006) := by
      rw [lp_X10_givesBack_10, h4, if_neg (by rw [Int32.le_iff_toInt_le, i_0]; omega)]
      simp only [e0]
      rw [u3, if_pos (nI_in u1 (by omega)), qu, u7, pt_b2e, kx_X10_givesBack_10, u3]
    rw [C1, R1]
    by_cases c : (L (q 0) : Int) ≤ (τ 0 31).toInt
    · obtain ⟨σ1, d1, d2, d3, d4, d5⟩ := drop_ok h1 (by omega) h3
      obtain ⟨τ1, l1, l2, l3, l4, l5⟩ := leave_ok h1 (by omega) h4 (fun j j1 j2 => by
        rw [(h5 j j2).2.2.1, u3]
        intro hq
        have := h6 j 0 j2 (by omega) ((nI_eq (by have := (h5 j j2).1; omega) (by omega)).mp hq)
        omega)
      obtain ⟨lf, hlf⟩ : ∃ x, x = τ 0 31 - nI (L (q 0)) := ⟨_, rfl⟩
      have hlf2 : lf.toInt = (τ 0 31).toInt - (L (q 0) : Int) := by rw [hlf, i_sub (by rw [qL]; omega), qL]
      obtain ⟨σ3, hσ3⟩ : ∃ x, x = pt_put (pt_put (pt_put σ1 6 2 lf) (9 + q 0) 1 2) (9 + q 0) 3 0 := ⟨_, rfl⟩
      obtain ⟨τ3, hτ3⟩ : ∃ x, x = pt_put (pt_put (pt_put τ1 0 31 lf) 8 (q 0) 2) 10 (q 0) 0 := ⟨_, rfl⟩
      have dis : ∀ i, i < m → q (i + 1) ≠ q 0 := fun i hi hq => by have := h6 (i + 1) 0 (by omega) (by omega) hq; omega
      have H3 : gb_H σ3 τ3 m (fun i => q (i + 1)) L := by
        refine ⟨by omega, ?_, ?_, ?_, fun i hi => ?_, fun i j hi hj hq => ?_⟩
        · rw [hσ3, hτ3]; simp (disch := omega) only [pt_ne, pt_eq]
        · rw [hσ3]; simp (disch := omega) only [pt_ne, pt_nj]; exact d4
        · rw [hτ3]; simp (disch := omega) only [pt_ne, pt_nj]; exact l4
        · obtain ⟨v1, v2, v3, v4, v5, v6, v7⟩ := h5 (i + 1) (by omega)
          have hne := dis i hi
          refine ⟨v1, ?_, ?_, ?_, ?_, v6, ?_⟩
          · rw [hσ3]; simp (disch := omega) only [pt_ne]; rw [d5 i (by omega)]; exact v2
          · rw [hτ3]; simp (disch := omega) only [pt_ne]; rw [l5 i (by omega)]; exact v3
          · rw [hτ3]; simp (disch := omega) only [pt_ne, pt_nj]; rw [l2 8 (by omega) (by omega)]; exact v4
          · rw [hσ3]; simp (disch := omega) only [pt_ne]; rw [d2 _ (by omega) (by omega)]; exact v5
          · have e9 : τ3 9 = τ 9 := by rw [hτ3]; simp (disch := omega) only [pt_ne]; rw [l2 9 (by omega) (by omega)]
            rw [e9]
            refine len_fr ?_ ?_ v7
            · rw [hτ3]; simp (disch := omega) only [pt_ne, pt_nj]; rw [l3 1 (by omega)]
            · rw [hτ3]; simp (disch := omega) only [pt_ne, pt_nj]; rw [l3 2 (by omega)]
        · have := h6 (i + 1) (j + 1) (by omega) (by omega) hq; omega
      have e31 : τ3 0 31 = lf := by rw [hτ3]; simp (disch := omega) only [pt_ne, pt_eq]
      obtain ⟨σ', τ', m', G, w1, w2, x1, x2, x3, x4, x5, x6, x7, x8, x9, x10, x11, x12, x13, x14, x15, x16, x17⟩ := ih n nR (fun i => q (i + 1)) σ3 τ3 H3 (by rw [e31]; omega) (by rw [e31]; omega) (by omega) (by omega)
      have hG0 : G (q 0) = false := by
        cases hG : G (q 0) with
        | false => rfl
        | true =>
          obtain ⟨i, i1, i2⟩ := x14 _ hG
          exact absurd i2 (dis i (by omega))
      refine ⟨σ', τ', m', fun v => v == q 0 || G v, ?_, ?_, ?_, ?_, ?_, ?_, ?_, ?_, by omega, x8, x9, x10, fun i hi => ?_, fun i hi => ?_, fun i i1 i2 => ?_, fun u hu => ?_, fun hm => ?_, x16, ?_⟩
      · rw [if_pos (by rw [Int32.le_iff_toInt_le]; omega), d1, pt_b1e, pt_doe, d3 2 (by omega), d2 _ (by omega) (by omega), u5, h2, ← hlf, f_X8_startWork, qu, pt_doe, pt_doe, pt_b1e, pk_m1, ← hσ3]
        exact w1
      · have hlen : f_X10_lengthOf τ1 (τ1 9 (q 0)) = some (nI (L (q 0)), τ1) := by
          rw [l2 9 (by omega) (by omega)]
          exact len_fr (l3 1 (by omega)) (l3 2 (by omega)) u7
        rw [if_neg (by rw [Int32.lt_iff_toInt_lt]; omega), l1, pt_b1e, f_X10_works, if_pos (nI_in u1 (by omega)), qu, hlen, pt_b2e, pt_doe, l3 31 (by omega), ← hlf, pt_doe, pt_doe, pt_b1e, ← hτ3]
        exact w2
      · intro c c6 c23 c9
        rw [x1 c c6 c23 c9, hσ3]
        simp (disch := omega) only [pt_ne]
        exact d2 c c6 c23
      · intro u j hu j1 j3
        rw [x2 u j hu j1 j3, hσ3]
        by_cases huq : u = q 0
        · subst huq; simp (disch := omega) only [pt_ne, pt_nj]; rw [d2 _ (by omega) (by omega)]
        · simp (disch := omega) only [pt_ne]; rw [d2 _ (by omega) (by omega)]
      · intro k k0 k8 k10 k17
        rw [x3 k k0 k8 k10 k17, hτ3]
        simp (disch := omega) only [pt_ne]
        exact l2 k k0 k17
      · intro j j31 j33
        rw [x4 j j31 j33, hτ3]
        simp (disch := omega) only [pt_ne, pt_nj]
        exact l3 j j33
      · intro u hu hGu
        by_cases huq : u = q 0
        · subst huq
          obtain ⟨y1, y2, y3, y4⟩ := x6 _ hu hG0
          rw [y1, y2, y3, y4, hσ3, hτ3]
          simp (disch := omega) only [pt_ne, pt_nj, pt_eq]
          exact ⟨u4, trivial, trivial, trivial, trivial⟩
        · have hG1 : G u = true := by simpa [huq] using hGu
          obtain ⟨y1, y2, y3, y4, y5⟩ := x5 u hu hG1
          rw [hτ3] at y1
          simp (disch := omega) only [pt_ne, pt_nj] at y1
          rw [l2 8 (by omega) (by omega)] at y1
          exact ⟨y1, y2, y3, y4, y5⟩
      · intro u hu hGu
        have hGu2 : u ≠ q 0 ∧ G u = false := by simpa using hGu
        obtain ⟨huq, hG1⟩ := hGu2
        obtain ⟨y1, y2, y3, y4⟩ := x6 u hu hG1
        rw [y1, y2, y3, y4, hσ3, hτ3]
        simp (disch := omega) only [pt_ne, pt_nj]
        rw [l2 8 (by omega) (by omega), l2 10 (by omega) (by omega), d2 _ (by omega) (by omega)]
        exact ⟨rfl, rfl, rfl, rfl⟩
      · rw [show i + (m + 1 - m') = i + (m - m') + 1 by omega]; exact x11 i hi
      · by_cases i0 : i = 0
        · subst i0; simp
        · have this : G (q (i - 1 + 1)) = true := x12 (i - 1) (by omega)
          rw [show i - 1 + 1 = i by omega] at this
          simp [this]
      · have this : G (q (i - 1 + 1)) = false := x13 (i - 1) (by omega) (by omega)
        rw [show i - 1 + 1 = i by omega] at this
        have hne := dis (i - 1) (by omega)
        rw [show i - 1 + 1 = i by omega] at hne
        simp [this, hne]
      · by_cases huq : u = q 0
        · exact ⟨0, by omega, huq.symm⟩
        · have hG1 : G u = true := by simpa [huq] using hu
          obtain ⟨i, i1, i2⟩ := x14 u hG1
          exact ⟨i + 1, by omega, i2⟩
      · rw [show m + 1 - m' = m - m' + 1 by omega]; exact x15 hm
      · rw [gs_up G L (q 0) hG0 6, if_pos u1]
        rw [e31] at x17
        omega
    · refine ⟨σ, τ, m + 1, fun _ => false, ?_, ?_, gb_nil h h0 (fun _ => by omega)⟩
      · rw [if_neg (by rw [Int32.le_iff_toInt_le]; omega)]
      · rw [if_pos (by rw [Int32.lt_iff_toInt_lt]; omega)]
