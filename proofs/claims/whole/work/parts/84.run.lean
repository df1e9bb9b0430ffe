/-! ===== turns in the ring ===== -/
theorem ended_lp {th : Nat} (hth : th ≤ 6) {σ : pt_St} (h6 : σ 5 6 = nI th) : ∀ (d i n : Nat), i + d = th → d < n → ∃ r, lp_X6_allEnded_2 kx_X6_allEnded_2 n σ (nI i) = some (r, σ) ∧ ((r = 1 ∧ ∀ u, i ≤ u → u < th → σ (9 + u) 1 = 4) ∨ (r = 0 ∧ ∃ u, i ≤ u ∧ u < th ∧ σ (9 + u) 1 ≠ 4)) := by
  intro d
  induction d with
  | zero =>
    intro i n hi hn
    obtain ⟨n, rfl⟩ : ∃ z, n = z + 1 := ⟨n - 1, by omega⟩
    have q : (nI i).toInt = (i : Int) := i_nI (by omega)
    have qn : (nI th).toInt = (th : Int) := i_nI (by omega)
    refine ⟨1, ?_, Or.inl ⟨rfl, fun u h1 h2 => absurd h2 (by omega)⟩⟩
    rw [lp_X6_allEnded_2, h6, if_pos (by rw [Int32.le_iff_toInt_le]; omega), kx_X6_allEnded_2]
  | succ d ih =>
    intro i n hi hn
    obtain ⟨n, rfl⟩ : ∃ z, n = z + 1 := ⟨n - 1, by omega⟩
    have q : (nI i).toInt = (i : Int) := i_nI (by omega)
    have qn : (nI th).toInt = (th : Int) := i_nI (by omega)
    have qc : (nI i).toNatClampNeg = i := nI_clamp (by omega)
    by_cases c : σ (9 + i) 1 = 4
    · obtain ⟨r, w1, w2⟩ := ih (i + 1) n (by omega) (by omega)
      refine ⟨r, ?_, ?_⟩
      · rw [lp_X6_allEnded_2, h6, if_neg (by rw [Int32.le_iff_toInt_le]; omega), if_neg (by rw [Int32.le_iff_toInt_le, i_6]; omega), if_pos (nI_in (by omega) (by omega)), qc, if_pos c, nI_1]
        exact w1
      · rcases w2 with ⟨r1, w2⟩ | ⟨r1, u, u1, u2, u3⟩
        · refine Or.inl ⟨r1, fun u h1 h2 => ?_⟩
          by_cases cu : u = i
          · rw [cu]; exact c
          · exact w2 u (by omega) h2
        · exact Or.inr ⟨r1, u, by omega, u2, u3⟩
    · refine ⟨0, ?_, Or.inr ⟨rfl, i, by omega, by omega, c⟩⟩
      rw [lp_X6_allEnded_2, h6, if_neg (by rw [Int32.le_iff_toInt_le]; omega), if_neg (by rw [Int32.le_iff_toInt_le, i_6]; omega), if_pos (nI_in (by omega) (by omega)), qc, if_neg c]
theorem over_lp {th : Nat} (hth : th ≤ 6) {τ : pt_St} (h15 : τ 0 15 = nI th) : ∀ (d i n : Nat) (x1 : Int32), i + d = th → d < n → (x1 = 0 ∨ x1 = 1) → ∃ r, lp_X10_isOver_4 kx_X10_isOver_4 n τ x1 (nI i) = some (r, τ) ∧ ((r = 1 ∧ x1 = 1 ∧ ∀ u, i ≤ u → u < th → τ 8 u = 4) ∨ (r = 0 ∧ (x1 = 0 ∨ ∃ u, i ≤ u ∧ u < th ∧ τ 8 u ≠ 4))) := by
  intro d
  induction d with
  | zero =>
    intro i n x1 hi hn hx
    obtain ⟨n, rfl⟩ : ∃ z, n = z + 1 := ⟨n - 1, by omega⟩
    have q : (nI i).toInt = (i : Int) := i_nI (by omega)
    have qn : (nI th).toInt = (th : Int) := i_nI (by omega)
    refine ⟨x1, ?_, ?_⟩
    · rw [lp_X10_isOver_4, h15, if_pos (by rw [Int32.le_iff_toInt_le]; omega), kx_X10_isOver_4, if_pos hx]
    · rcases hx with hx | hx
      · exact Or.inr ⟨hx, Or.inl hx⟩
      · exact Or.inl ⟨hx, hx, fun u h1 h2 => absurd h2 (by omega)⟩
  | succ d ih =>
    intro i n x1 hi hn hx
    obtain ⟨n, rfl⟩ : ∃ z, n = z + 1 := ⟨n - 1, by omega⟩
    have q : (nI i).toInt = (i : Int) := i_nI (by omega)
    have qn : (nI th).toInt = (th : Int) := i_nI (by omega)
    have qc : (nI i).toNatClampNeg = i := nI_clamp (by omega)
    obtain ⟨r0, v1, v2⟩ := ih (i + 1) n 0 (by omega) (by omega) (Or.inl rfl)
    have v3 : r0 = 0 := by
      rcases v2 with ⟨-, v2, -⟩ | ⟨v2, -⟩
      · exact absurd v2 (by decide)
      · exact v2
    rcases hx with hx | hx
    · subst hx
      refine ⟨r0, ?_, Or.inr ⟨v3, Or.inl rfl⟩⟩
      rw [lp_X10_isOver_4, h15, if_neg (by rw [Int32.le_iff_toInt_le]; omega), if_pos rfl, nI_1]
      exact v1
    · subst hx
      by_cases c : τ 8 i = 4
      · obtain ⟨r, w1, w2⟩ := ih (i + 1) n 1 (by omega) (by omega) (Or.inr rfl)
        refine ⟨r, ?_, ?_⟩
        · rw [lp_X10_isOver_4, h15, if_neg (by rw [Int32.le_iff_toInt_le]; omega), if_neg (by decide), if_pos (nI_in (by omega) (by omega)), qc, if_pos c, nI_1]
          exact w1
        · rcases w2 with ⟨r1, -, w2⟩ | ⟨r1, w2⟩
          · refine Or.inl ⟨r1, rfl, fun u h1 h2 => ?_⟩
            by_cases cu : u = i
            · rw [cu]; exact c
            · exact w2 u (by omega) h2
          · rcases w2 with w2 | ⟨u, u1, u2, u3⟩
            · exact absurd w2 (by decide)
            · exact Or.inr ⟨r1, Or.inr ⟨u, by omega, u2, u3⟩⟩
      · refine ⟨r0, ?_, Or.inr ⟨v3, Or.inr ⟨i, by omega, by omega, c⟩⟩⟩
        rw [lp_X10_isOver_4, h15, if_neg (by rw [Int32.le_iff_toInt_le]; omega), if_neg (by decide), if_pos (nI_in (by omega) (by omega)), qc, if_neg c, nI_1]
        exact v1
theorem over_ok {σ τ : pt_St} (h : rl_R σ τ) (hb : τ 0 14 = 1) : ∃ r, (r = 0 ∨ r = 1) ∧ f_X6_allEnded σ = some (r, σ) ∧ f_X10_isOver τ = some (r, τ) := by
  obtain ⟨hA, hB, hE, hP, hI⟩ := id h
  have i1 := (hI hb).1
  have hst : ∀ u, u < 6 → σ (9 + u) 1 = τ 8 u := fun u hu => (hE.2.2.2.2.2.2.2.2.2.2.2.2.2.2.2.2.2 u hu).2.1
  obtain ⟨th, hthd⟩ : ∃ th, th = (τ 0 15).toInt.toNat := ⟨_, rfl⟩
  have hth : τ 0 15 = nI th := by rw [hthd]; exact i_of (by omega)
  obtain ⟨r, w1, w2⟩ := ended_lp (th := th) (by omega) (σ := σ) (by rw [hE.1, hth]) th 0 pt_F (by omega) (by unfold pt_F; omega)
  obtain ⟨r', v1, v2⟩ := over_lp (th := th) (by omega) (τ := τ) hth th 0 pt_F 1 (by omega) (by unfold pt_F; omega) (Or.inr rfl)
  have e : r = r' ∧ (r = 0 ∨ r = 1) := by
    rcases w2 with ⟨a1, a2⟩ | ⟨a1, u, u1, u2, u3⟩
    · rcases v2 with ⟨b1, -, b2⟩ | ⟨b1, b2⟩
      · exact ⟨by rw [a1, b1], Or.inr a1⟩
      · rcases b2 with b2 | ⟨v, x1, x2, x3⟩
        · exact absurd b2 (by decide)
        · exact absurd (by rw [← hst v (by omega)]; exact a2 v x1 x2) x3
    · rcases v2 with ⟨b1, -, b2⟩ | ⟨b1, b2⟩
      · exact absurd (by rw [hst u (by omega)]; exact b2 u u1 u2) u3
      · exact ⟨by rw [a1, b1], Or.inl a1⟩
  refine ⟨r, e.2, w1, ?_⟩
  rw [e.1]; exact v1
set_option maxHeartbeats 4000000 in
theorem run_lp {K : Nat} (hK : K ≤ 400) : ∀ (d i n nR : Nat) (x2 : Int32) (σ τ : pt_St), i + d = K → d < n → d < nR → rl_R σ τ → τ 0 14 = 1 → ∃ r σ' τ', lp_X6_giveTurnsInRing_4 (kx_X6_giveTurnsInRing_4 (nI K)) (nI K) n σ x2 (nI i) = some (r, σ') ∧ lp_X10_run_28 (kx_X10_run_28 (nI K)) (nI K) nR τ x2 (nI i) = some (r, τ') ∧ rl_R σ' τ' := by
  intro d
  induction d with
  | zero =>
    intro i n nR x2 σ τ hi hn hnR h hb
    obtain ⟨n, rfl⟩ : ∃ z, n = z + 1 := ⟨n - 1, by omega⟩
    obtain ⟨nR, rfl⟩ : ∃ z, nR = z + 1 := ⟨nR - 1, by omega⟩
    have q : (nI i).toInt = (i : Int) := i_nI (by omega)
    have qn : (nI K).toInt = (K : Int) := i_nI (by omega)
    exact ⟨x2, σ, τ, by rw [lp_X6_giveTurnsInRing_4, if_pos (by rw [Int32.le_iff_toInt_le]; omega), kx_X6_giveTurnsInRing_4], by rw [lp_X10_run_28, if_pos (by rw [Int32.le_iff_toInt_le]; omega), kx_X10_run_28], h⟩
  | succ d ih =>
    intro i n nR x2 σ τ hi hn hnR h hb
    obtain ⟨n, rfl⟩ : ∃ z, n = z + 1 := ⟨n - 1, by omega⟩
    obtain ⟨nR, rfl⟩ : ∃ z, nR = z + 1 := ⟨nR - 1, by omega⟩
    have q : (nI i).toInt = (i : Int) := i_nI (by omega)
    have qn : (nI K).toInt = (K : Int) := i_nI (by omega)
    have n10 : ¬ (1 : Int32) = 0 := by decide
    obtain ⟨r, r0, w1, w2⟩ := over_ok h hb
    rcases r0 with r0 | r0
    · subst r0
      obtain ⟨hA, hB, hE, hP, hI⟩ := id h
      have i1 := (hI hb).1
      have i4 := (hI hb).2.2.2.1
      obtain ⟨th, hthd⟩ : ∃ th, th = (τ 0 15).toInt.toNat := ⟨_, rfl⟩
      have hth : τ 0 15 = nI th := by rw [hthd]; exact i_of (by omega)
      have qth : (nI th).toInt = (th : Int) := i_nI (by omega)
      have h1 : (τ 0 23 + 1).toInt = (τ 0 23).toInt + 1 := by rw [i_add (by rw [i_1]; omega), i_1]
      obtain ⟨k, hkd⟩ : ∃ k, k = (τ 0 23 + 1).toInt.toNat := ⟨_, rfl⟩
      have hk : τ 0 23 + 1 = nI k := by rw [hkd]; exact i_of (by omega)
      have qk : (nI k).toInt = (k : Int) := i_nI (by omega)
      have hk2 : k ≤ th := by omega
      have hmod : k - k / th * th = if th ≤ k then 0 else k := by
        by_cases c : th ≤ k
        · have e : k = th := by omega
          rw [if_pos c, e, Nat.div_self (by omega)]; omega
        · rw [if_neg c, Nat.div_eq_of_lt (by omega)]; omega
      have hle : k / th * th ≤ k := Nat.div_mul_le_self k th
      obtain ⟨t, htd⟩ : ∃ t, t = if th ≤ k then 0 else k := ⟨_, rfl⟩
      have htl : t < th := by
        rw [htd]
        by_cases c : th ≤ k
        · rw [if_pos c]; omega
        · rw [if_neg c]; omega
      obtain ⟨r, σ', τ', x0, x1, x3, x4, x5⟩ := sm_act (t := t) h hb (by omega) (by omega)
      obtain ⟨x2', hx2'⟩ : ∃ y, y = x2 + r := ⟨_, rfl⟩
      obtain ⟨rr, σ2, τ2, z1, z2, z3⟩ := ih (i + 1) n nR x2' σ' τ' (by omega) (by omega) (by omega) x4 x5
      refine ⟨rr, σ2, τ2, ?_, ?_, z3⟩
      · rw [lp_X6_giveTurnsInRing_4, if_neg (by rw [Int32.le_iff_toInt_le]; omega), w1, pt_b2e, if_pos rfl, hE.1, hE.2.1, hth, hk]
        have tail : (pt_b2 (f_X6_giveTurn σ (nI t)) fun r5005 σ5005 => if r5005 = 0 then lp_X6_giveTurnsInRing_4 (kx_X6_giveTurnsInRing_4 (nI K)) (nI K) n σ5005 x2 (nI i + 1) else lp_X6_giveTurnsInRing_4 (kx_X6_giveTurnsInRing_4 (nI K)) (nI K) n σ5005 (x2 + 1) (nI i + 1)) = some (rr, σ2) := by
          rw [x1, pt_b2e, nI_1]
          rcases x0 with x0 | x0
          · rw [if_pos x0]
            rw [x0, Int32.add_zero] at hx2'
            rw [← hx2']; exact z1
          · rw [if_neg (by rw [x0]; exact n10)]
            rw [x0] at hx2'
            rw [← hx2']; exact z1
        by_cases c : th ≤ k
        · rw [if_pos c] at htd
          rw [if_pos (by rw [Int32.le_iff_toInt_le]; omega)]
          rw [htd] at tail
          exact tail
        · rw [if_neg c] at htd
          rw [if_neg (by rw [Int32.le_iff_toInt_le]; omega)]
          rw [htd] at tail
          exact tail
      · rw [lp_X10_run_28, if_neg (by rw [Int32.le_iff_toInt_le]; omega), w2, pt_b2e, if_pos rfl, hth, hk, if_pos (by rw [i_eq, qth, i_0]; omega), pk_div (by omega) (by omega) (by omega), pk_mul, pk_sub hle, hmod, ← htd, x3, pt_b2e, nI_1, ← hx2']
        exact z2
    · subst r0
      exact ⟨x2, σ, τ, by rw [lp_X6_giveTurnsInRing_4, if_neg (by rw [Int32.le_iff_toInt_le]; omega), w1, pt_b2e, if_neg n10, kx_X6_giveTurnsInRing_4], by rw [lp_X10_run_28, if_neg (by rw [Int32.le_iff_toInt_le]; omega), w2, pt_b2e, if_neg n10, kx_X10_run_28], h⟩
theorem sm_run {σ τ : pt_St} {a1 : Int32} (h : rl_R σ τ) : ∃ (r : Int32) (σ' τ' : pt_St), f_X9_run σ a1 = some (r, σ') ∧ f_X10_run τ a1 = some (r, τ') ∧ rl_R σ' τ' := by
  have e10 : σ 0 5 = τ 0 14 := h.1.2.2.2.2.2.2.2.2.2.1
  have n10 : ¬ (1 : Int32) = 0 := by decide
  by_cases c : 0 ≤ a1.toInt ∧ a1.toInt ≤ 400
  · have hin : f_X10_in τ a1 0 400 = some (1, τ) := by
      rw [f_X10_in, if_neg (by rw [Int32.lt_iff_toInt_lt, i_0]; omega), if_neg (by rw [Int32.lt_iff_toInt_lt, i_400]; omega)]
    rcases rl_bg h.2.1 with hb | hb
    · exact ⟨-3, σ, τ, by rw [f_X9_run, if_neg (by rw [Int32.lt_iff_toInt_lt, i_0]; omega), if_pos (by rw [Int32.le_iff_toInt_le, i_400]; omega), e10, hb, if_pos rfl], by rw [f_X10_run, hin, pt_b2e, if_neg n10, hb, if_pos rfl], h⟩
    · obtain ⟨K, hKd⟩ : ∃ K, K = a1.toInt.toNat := ⟨_, rfl⟩
      have hK : a1 = nI K := by rw [hKd]; exact i_of c.1
      obtain ⟨r, σ', τ', w1, w2, w3⟩ := run_lp (K := K) (by omega) K 0 pt_F pt_F 0 σ τ (by omega) (by unfold pt_F; omega) (by unfold pt_F; omega) h hb
      have w1' : f_X6_giveTurnsInRing σ (nI K) = some (r, σ') := w1
      refine ⟨r, σ', τ', ?_, ?_, w3⟩
      · rw [f_X9_run, if_neg (by rw [Int32.lt_iff_toInt_lt, i_0]; omega), if_pos (by rw [Int32.le_iff_toInt_le, i_400]; omega), e10, hb, if_neg n10, hK, w1', pt_b2e]
      · rw [f_X10_run, hin, pt_b2e, if_neg n10, hb, if_neg n10, hK]
        exact w2
  · refine ⟨-2, σ, τ, ?_, ?_, h⟩
    · rw [f_X9_run]
      by_cases c1 : a1.toInt < 0
      · rw [if_pos (by rw [Int32.lt_iff_toInt_lt, i_0]; omega)]
      · rw [if_neg (by rw [Int32.lt_iff_toInt_lt, i_0]; omega), if_neg (by rw [Int32.le_iff_toInt_le, i_400]; omega)]
    · have hin : f_X10_in τ a1 0 400 = some (0, τ) := by
        rw [f_X10_in]
        by_cases c1 : a1.toInt < 0
        · rw [if_pos (by rw [Int32.lt_iff_toInt_lt, i_0]; omega)]
        · rw [if_neg (by rw [Int32.lt_iff_toInt_lt, i_0]; omega), if_pos (by rw [Int32.lt_iff_toInt_lt, i_400]; omega)]
      rw [f_X10_run, hin, pt_b2e, if_pos rfl]
