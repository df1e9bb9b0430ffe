/-! ===== a free thread takes a block ===== -/
theorem sum_one {τ τ' : pt_St} {t : Nat} (h1 : τ' 0 1 = τ 0 1) (h2 : τ' 0 2 = τ 0 2) (g1 : τ 8 t ≠ 2) (g2 : τ' 8 t = 2) : ∀ n : Nat, (∀ u, u < n → u ≠ t → τ' 8 u = τ 8 u ∧ τ' 9 u = τ 9 u) → rl_sum τ' n = rl_sum τ n + (if t < n then rl_len τ (τ' 9 t).toInt else 0)
  | 0, _ => by simp only [rl_sum]; rw [if_neg (by omega)]; omega
  | n + 1, h => by
    have ih := sum_one h1 h2 g1 g2 n (fun u hu => h u (by omega))
    simp only [rl_sum]
    by_cases c : n = t
    · subst c
      rw [if_neg (Nat.lt_irrefl n)] at ih
      rw [if_pos g2, if_neg g1, if_pos (Nat.lt_succ_self n), rl_len_fr h1 h2]
      omega
    · obtain ⟨q1, q2⟩ := h n (by omega) c
      rw [q1, q2, rl_len_fr h1 h2, ih]
      by_cases c2 : t < n
      · rw [if_pos c2, if_pos (show t < n + 1 by omega)]; omega
      · rw [if_neg c2, if_neg (show ¬ t < n + 1 by omega)]; omega
def tk_W (σ τ σ' τ' : pt_St) (t L : Nat) : Prop :=
  τ' 8 t = 2 ∧ τ' 10 t = 0 ∧ σ' (9 + t) 1 = 2 ∧ σ' (9 + t) 3 = 0 ∧ τ 0 33 = 0 ∧ τ' 0 33 = 0 ∧ (L : Int) ≤ (τ 0 31).toInt ∧ τ' 0 31 = τ 0 31 - nI L ∧ σ' 6 1 = 0 ∧ σ' 6 2 = τ' 0 31 ∧ σ' 23 = σ 23 ∧ τ' 17 = τ 17
def tk_L (σ τ σ' τ' : pt_St) (t x L m : Nat) : Prop :=
  τ 14 x = 0 ∧ τ' 8 t = 1 ∧ σ' (9 + t) 1 = 1 ∧ σ' (9 + t) 3 = -1 ∧ (m = 0 → (τ 0 31).toInt < (L : Int)) ∧ τ' 0 33 = nI (m + 1) ∧ τ' 0 31 = τ 0 31 ∧ σ' 6 1 = nI (m + 1) ∧ σ' 6 2 = σ 6 2 ∧ σ' 23 = upd (σ 23) m (nI t) ∧ τ' 17 = upd (τ 17) m (nI t)
/-- room in the line for one that is free -/
theorem line_room {σ τ : pt_St} {t : Nat} (h : rl_L σ τ) (ht : t < 6) (h0 : τ 8 t ≠ 1) : (τ 0 33).toInt ≤ 5 := by
  obtain ⟨l1, l2, l3, l4⟩ := h
  have hq : ∀ i : Nat, (i : Int) < (τ 0 33).toInt → ∃ u, u < 6 ∧ u ≠ t ∧ τ 17 i = nI u := fun i hi => by
    obtain ⟨-, u, q2, q3, q4⟩ := l3 i hi
    exact ⟨u, q2, fun e => h0 (by rw [← e]; exact q4), q3⟩
  have := pig 6 ((τ 0 33).toInt.toNat + 1) (fun i => if i < (τ 0 33).toInt.toNat then (τ 17 i).toInt.toNat else t) (fun i hi => by
    by_cases c : i < (τ 0 33).toInt.toNat
    · obtain ⟨u, u1, u2, u3⟩ := hq i (by omega)
      simp only [if_pos c]
      rw [u3, i_nI (by omega)]; omega
    · simp only [if_neg c]; exact ht) (fun i j hi hj hqq => by
    by_cases c : i < (τ 0 33).toInt.toNat
    · obtain ⟨u, u1, u2, u3⟩ := hq i (by omega)
      by_cases c2 : j < (τ 0 33).toInt.toNat
      · obtain ⟨w, w1, w2, w3⟩ := hq j (by omega)
        simp only [if_pos c, if_pos c2] at hqq
        rw [u3, w3, i_nI (by omega), i_nI (by omega)] at hqq
        refine l4 i j (by omega) (by omega) ?_
        rw [u3, w3, show u = w by omega]
      · simp only [if_pos c, if_neg c2] at hqq
        rw [u3, i_nI (by omega)] at hqq
        omega
    · by_cases c2 : j < (τ 0 33).toInt.toNat
      · obtain ⟨w, w1, w2, w3⟩ := hq j (by omega)
        simp only [if_neg c, if_pos c2] at hqq
        rw [w3, i_nI (by omega)] at hqq
        omega
      · omega)
  omega
set_option maxHeartbeats 8000000 in
theorem take_upd {σ τ σ' τ' : pt_St} {t x L m : Nat} (h : rl_R σ τ) (hb : τ 0 14 = 1) (ht : t < 6) (htt : (t : Int) < (τ 0 15).toInt) (h0t : τ 8 t = 0) (hs : τ 0 34 = -1 ∧ τ 0 35 = 0) (hx : (x : Int) < (τ 0 16).toInt) (hL : rl_len τ (x : Int) = (L : Int)) (hL2 : L ≤ 32)
    (s1 : ∀ c, c ≠ 9 + t → c ≠ 5 → c ≠ 6 → c ≠ 23 → σ' c = σ c) (s5 : ∀ j, j ≠ 8 → σ' 5 j = σ 5 j) (s58 : σ' 5 8 = τ' 0 24)
    (hk : ∀ k, k ≠ 0 → k ≠ 8 → k ≠ 9 → k ≠ 10 → k ≠ 17 → τ' k = τ k) (hj : ∀ k j, 8 ≤ k → k ≤ 10 → j ≠ t → τ' k j = τ k j) (h0 : ∀ j, j ≠ 24 → j ≠ 31 → j ≠ 33 → τ' 0 j = τ 0 j)
    (n24 : (τ 0 24).toInt ≤ (τ' 0 24).toInt ∧ (x : Int) < (τ' 0 24).toInt ∧ (τ' 0 24).toInt ≤ (τ 0 16).toInt) (t9 : τ' 9 t = nI x) (a2 : σ' (9 + t) 2 = nI x) (a4 : σ' (9 + t) 4 = nI L) (aj : ∀ j, j = 0 ∨ j = 5 ∨ j = 6 ∨ j = 7 → σ' (9 + t) j = σ (9 + t) j)
    (hu : ∀ u, u < 6 → u ≠ t → (τ 8 u = 1 ∨ τ 8 u = 2) → τ 9 u ≠ nI x ∧ τ 14 (τ 9 u).toInt.toNat = 0) (fr : τ 14 x = 0 ∨ ∀ u, u < 6 → u ≠ t → τ 8 u ≠ 1 ∧ τ 8 u ≠ 2) (hm : τ 0 33 = nI m) (hm5 : m ≤ 5)
    (alt : tk_W σ τ σ' τ' t L ∨ tk_L σ τ σ' τ' t x L m) : rl_R σ' τ' := by
  obtain ⟨hA, hB, hE, hP, hI⟩ := id h
  obtain ⟨e1, e2, e3, e4, e5, e6, e7, e8, e9, e10, e11⟩ := id hA
  obtain ⟨b1, b2, b3, b4, b5, b6, b7, b8, b9, b10, b11, b12, b13, b14⟩ := id hB
  obtain ⟨g1, g2, g3, g4, g5, g6, g7, g8, g9, g10, g11, g12, g13, g14, g15, g16, g17, g18⟩ := id hE
  obtain ⟨i1, i2, i3, i4, i5, i6, i7, i8, i9, i10, i11, i12, i13, i14⟩ := id (hI hb)
  obtain ⟨l1, l2, l3, l4⟩ := id i9
  have hmy := rl_many_le hB
  have h9 : τ 0 9 = 1 := b14 hb
  obtain ⟨p1, p2, p3, p4, p5, p6⟩ := hP h9
  have qx : (nI x).toInt = (x : Int) := i_nI (by omega)
  have qm : (nI m).toInt = (m : Int) := i_nI (by omega)
  have qm1 : (nI (m + 1)).toInt = ((m + 1 : Nat) : Int) := i_nI (by omega)
  have e1' := h0 1 (by omega) (by omega) (by omega)
  have e2' := h0 2 (by omega) (by omega) (by omega)
  have hmn := rl_many_fr e1' e2'
  have hln := fun b => rl_len_fr e1' e2' b
  have st : τ' 8 t = 1 ∨ τ' 8 t = 2 := by
    rcases alt with a | a
    · exact Or.inr a.1
    · exact Or.inl a.2.1
  have s4 : σ' 4 = σ 4 := s1 4 (by omega) (by omega) (by omega) (by omega)
  have q33 : σ' 6 1 = τ' 0 33 ∧ σ' 6 2 = τ' 0 31 := by
    rcases alt with ⟨-, -, -, -, -, a6, -, -, a9, a10, -⟩ | ⟨-, -, -, -, -, a6, a7, a8, a9, -⟩
    · exact ⟨by rw [a9, a6], a10⟩
    · exact ⟨by rw [a8, a6], by rw [a9, a7, g9]⟩
  have ag : σ' (9 + t) 1 = τ' 8 t := by
    rcases alt with a | a
    · rw [a.1, a.2.2.1]
    · rw [a.2.1, a.2.2.1]
  refine ⟨rl_A_fr hA (fun k hk2 => s1 k (by omega) (by omega) (by omega) (by omega)) (by rw [s4]) (fun j hj2 => h0 j (by omega) (by omega) (by omega)) (fun k k1 k2 => hk k (by omega) (by omega) (by omega) (by omega) (by omega)), rl_B_fr hB (fun j hj2 => h0 j (by omega) (by omega) (by omega)) (hk 2 (by omega) (by omega) (by omega) (by omega) (by omega)), ?_, fun _ => rl_P_fr (hP h9) (by rw [s4]) (by rw [s4]) (s1 19 (by omega) (by omega) (by omega) (by omega)) (fun j hj2 => h0 j (by omega) (by omega) (by omega)) (fun k hk2 => hk k (by omega) (by omega) (by omega) (by omega) (by omega)), fun _ => ?_⟩
  · refine ⟨?_, ?_, s58, ?_, ?_, ?_, ?_, q33.1, q33.2, ?_, ?_, ?_, ?_, ?_, ?_, ?_, ?_, fun u hu2 => ?_⟩
    · rw [s5 6 (by omega), h0 15 (by omega) (by omega) (by omega)]; exact g1
    · rw [s5 7 (by omega), h0 23 (by omega) (by omega) (by omega)]; exact g2
    · rw [s5 9 (by omega), h0 34 (by omega) (by omega) (by omega)]; exact g4
    · rw [s5 10 (by omega), h0 35 (by omega) (by omega) (by omega)]; exact g5
    · rw [s5 11 (by omega), h0 36 (by omega) (by omega) (by omega)]; exact g6
    · rw [s5 12 (by omega), h0 37 (by omega) (by omega) (by omega)]; exact g7
    · rw [s1 7 (by omega) (by omega) (by omega) (by omega), h0 29 (by omega) (by omega) (by omega)]; exact g10
    · rw [s1 7 (by omega) (by omega) (by omega) (by omega), h0 30 (by omega) (by omega) (by omega)]; exact g11
    · rw [s1 8 (by omega) (by omega) (by omega) (by omega), h0 27 (by omega) (by omega) (by omega)]; exact g12
    · rw [s1 24 (by omega) (by omega) (by omega) (by omega), hk 16 (by omega) (by omega) (by omega) (by omega) (by omega)]; exact g13
    · rw [s1 25 (by omega) (by omega) (by omega) (by omega), hk 14 (by omega) (by omega) (by omega) (by omega) (by omega)]; exact g14
    · rw [s1 26 (by omega) (by omega) (by omega) (by omega), hk 15 (by omega) (by omega) (by omega) (by omega) (by omega)]; exact g15
    · rw [s1 20 (by omega) (by omega) (by omega) (by omega), hk 6 (by omega) (by omega) (by omega) (by omega) (by omega)]; exact g16
    · rw [s1 21 (by omega) (by omega) (by omega) (by omega), hk 7 (by omega) (by omega) (by omega) (by omega) (by omega)]; exact g17
    · rw [hk 11 (by omega) (by omega) (by omega) (by omega) (by omega), hk 12 (by omega) (by omega) (by omega) (by omega) (by omega), hk 13 (by omega) (by omega) (by omega) (by omega) (by omega)]
      obtain ⟨y0, y1, y2, y3, y4, y5⟩ := g18 u hu2
      by_cases c : u = t
      · subst c
        rw [aj 0 (by omega), aj 5 (by omega), aj 6 (by omega), aj 7 (by omega)]
        exact ⟨y0, ag, by rw [a2, t9], y3, y4, y5⟩
      · rw [s1 (9 + u) (by omega) (by omega) (by omega) (by omega), hj 8 u (by omega) (by omega) c, hj 9 u (by omega) (by omega) c]
        exact ⟨y0, y1, y2, y3, y4, y5⟩
  · refine ⟨by rw [h0 15 (by omega) (by omega) (by omega)]; exact i1, by rw [h0 16 (by omega) (by omega) (by omega), hmn]; exact i2, by rw [s1 7 (by omega) (by omega) (by omega) (by omega), h0 5 (by omega) (by omega) (by omega)]; exact i3, by rw [h0 23 (by omega) (by omega) (by omega), h0 15 (by omega) (by omega) (by omega)]; exact i4, by rw [h0 16 (by omega) (by omega) (by omega)]; omega, by rw [h0 30 (by omega) (by omega) (by omega), h0 16 (by omega) (by omega) (by omega)]; exact i6, ?_, fun u hu2 => ?_, ?_, ?_, ?_, ?_, by rw [hk 16 (by omega) (by omega) (by omega) (by omega) (by omega), h0 16 (by omega) (by omega) (by omega)]; exact i13, ?_⟩
    · rw [h0 27 (by omega) (by omega) (by omega), hk 14 (by omega) (by omega) (by omega) (by omega) (by omega), hk 15 (by omega) (by omega) (by omega) (by omega) (by omega)]
      refine ⟨i7.1, i7.2.1, fun j hj2 hj3 => i7.2.2.1 j (by omega) hj3, fun i hi => ?_⟩
      have := i7.2.2.2 i hi
      omega
    · unfold rl_T
      rw [h0 15 (by omega) (by omega) (by omega), h0 16 (by omega) (by omega) (by omega), hk 7 (by omega) (by omega) (by omega) (by omega) (by omega), hk 14 (by omega) (by omega) (by omega) (by omega) (by omega), hln]
      obtain ⟨y1, y2, y3, y4, y5, y6, y7, y8, y9⟩ := i8 u hu2
      by_cases c : u = t
      · subst c
        have p6' := p6 x (by omega)
        have hoth : τ 14 x ≠ 0 → ∀ v, v < 6 → v ≠ u → τ' 8 v ≠ 1 ∧ τ' 8 v ≠ 2 := fun q v hv hvu => by
          rcases fr with fr | fr
          · exact absurd fr q
          · rw [hj 8 v (by omega) (by omega) hvu]; exact fr v hv hvu
        rw [t9, a4, qx, Int.toNat_natCast, hL]
        refine ⟨?_, fun q => by omega, fun q => ?_, fun _ => by omega, ?_, ?_, fun _ => i_nI (by omega), ?_, fun _ q => hoth q⟩
        · rcases st with q | q <;> rw [q] <;> decide
        · rcases st with q2 | q2 <;> rw [q2] at q <;> rcases q with q | q <;> exact absurd q (by decide)
        · rcases alt with a | a
          · intro _
            rw [a.2.1, a.2.2.2.1]
            exact ⟨by decide, by rw [i_0]; omega, rfl⟩
          · rw [a.2.1]; intro q; exact absurd q (by decide)
        · rcases alt with a | a
          · intro q; exact absurd a.1 q
          · intro _; exact a.2.2.2.1
        · rcases alt with a | a
          · rw [a.1]; intro q; exact absurd q (by decide)
          · intro _; exact a.1
      · rw [hj 8 u (by omega) (by omega) c, hj 9 u (by omega) (by omega) c, hj 10 u (by omega) (by omega) c, s1 (9 + u) (by omega) (by omega) (by omega) (by omega)]
        exact ⟨y1, y2, y3, y4, y5, y6, y7, y8, fun q q2 => absurd (hu u hu2 c (Or.inr q)).2 q2⟩
    · rcases alt with ⟨a1, a2, a3, a4, a5, a6, a7, a8, a9, a10, a11, a12⟩ | ⟨a1, a2, a3, a4, a5, a6, a7, a8, a9, a10, a11⟩
      · have hno : ∀ u, u < 6 → τ 8 u ≠ 1 := fun u hu2 q => by
          obtain ⟨i, hi, -⟩ := l2 u hu2 q
          rw [a5, i_0] at hi
          omega
        refine ⟨by rw [a6, i_0]; omega, fun u hu2 q => ?_, fun i hi => absurd hi (by rw [a6, i_0]; omega), fun i j hi => absurd hi (by rw [a6, i_0]; omega)⟩
        by_cases c : u = t
        · subst c; rw [a1] at q; exact absurd q (by decide)
        · rw [hj 8 u (by omega) (by omega) c] at q; exact absurd q (hno u hu2)
      · have hlt : ∀ i : Nat, (i : Int) < (τ' 0 33).toInt → i ≠ m → (i : Int) < (τ 0 33).toInt := fun i hi hne => by
          rw [a6, qm1] at hi; rw [hm, qm]; omega
        have hnt : ∀ i : Nat, (i : Int) < (τ 0 33).toInt → τ 17 i ≠ nI t := fun i hi e => by
          obtain ⟨-, u, u2, u3, u4⟩ := l3 i hi
          rw [e] at u3
          have := (nI_eq (by omega) (by omega)).mp u3
          rw [← this, h0t] at u4
          exact absurd u4 (by decide)
        refine ⟨by rw [a6, qm1]; omega, fun u hu2 q => ?_, fun i hi => ?_, fun i j hi hj2 hqq => ?_⟩
        · rw [a11]
          by_cases c : u = t
          · refine ⟨m, by rw [a6, qm1]; omega, ?_⟩
            rw [upd_at, if_pos rfl, c]
          · rw [hj 8 u (by omega) (by omega) c] at q
            obtain ⟨i, hi1, hi2⟩ := l2 u hu2 q
            rw [hm, qm] at hi1
            refine ⟨i, by rw [a6, qm1]; omega, ?_⟩
            rw [upd_at, if_neg (by omega)]; exact hi2
        · rw [a10, a11, upd_at, upd_at]
          by_cases c : i = m
          · rw [if_pos c, if_pos c]; exact ⟨rfl, t, ht, rfl, a2⟩
          · rw [if_neg c, if_neg c]
            obtain ⟨v1, u, v2, v3, v4⟩ := l3 i (hlt i hi c)
            refine ⟨v1, u, v2, v3, ?_⟩
            rw [hj 8 u (by omega) (by omega) (fun e => by rw [e, h0t] at v4; exact absurd v4 (by decide))]; exact v4
        · rw [a11, upd_at, upd_at] at hqq
          by_cases c : i = m
          · by_cases c2 : j = m
            · omega
            · rw [if_pos c, if_neg c2] at hqq
              exact absurd hqq.symm (hnt j (hlt j hj2 c2))
          · by_cases c2 : j = m
            · rw [if_neg c, if_pos c2] at hqq
              exact absurd hqq (hnt i (hlt i hi c))
            · rw [if_neg c, if_neg c2] at hqq
              exact l4 i j (hlt i hi c) (hlt j hj2 c2) hqq
    · rw [hln]
      rcases alt with ⟨a1, a2, a3, a4, a5, a6, a7, a8, a9, a10, a11, a12⟩ | ⟨a1, a2, a3, a4, a5, a6, a7, a8, a9, a10, a11⟩
      · rw [a6, i_0]; intro q; exact absurd q (by omega)
      · intro _
        rw [a7, a11, upd_at]
        by_cases c : m = 0
        · rw [if_pos c.symm, i_nI (by omega), Int.toNat_natCast, t9, qx, hL]
          exact a5 c
        · rw [if_neg (by omega)]
          have hpos : 0 < (τ 0 33).toInt := by rw [hm, qm]; omega
          obtain ⟨-, u, u2, u3, u4⟩ := l3 0 (by omega)
          have e : (τ 17 0).toInt.toNat = u := by rw [u3, i_nI (by omega)]; omega
          have hut : u ≠ t := fun e => by rw [e, h0t] at u4; exact absurd u4 (by decide)
          rw [e, hj 9 u (by omega) (by omega) hut, ← e]
          exact i10 hpos
    · rw [h0 34 (by omega) (by omega) (by omega), h0 35 (by omega) (by omega) (by omega)]; exact Or.inl hs
    · rw [h0 4 (by omega) (by omega) (by omega)]
      rcases alt with ⟨a1, a2, a3, a4, a5, a6, a7, a8, a9, a10, a11, a12⟩ | ⟨a1, a2, a3, a4, a5, a6, a7, a8, a9, a10, a11⟩
      · have hsum := sum_one (τ := τ) (τ' := τ') (t := t) e1' e2' (by rw [h0t]; decide) a1 6 (fun u hu2 hut => ⟨hj 8 u (by omega) (by omega) hut, hj 9 u (by omega) (by omega) hut⟩)
        rw [if_pos ht, t9, qx, hL] at hsum
        have q31 : (τ' 0 31).toInt = (τ 0 31).toInt - (L : Int) := by
          have hr := i_rng (τ 0 31)
          rw [a8, i_sub (by rw [i_nI (by omega)]; omega), i_nI (by omega)]
        omega
      · rw [a7, sum_fr e1' e2' 6 (fun u hu2 => ?_)]
        · exact i12
        · by_cases c : u = t
          · subst c
            rw [a2, h0t]
            exact ⟨⟨fun q => absurd q (by decide), fun q => absurd q (by decide)⟩, fun q => absurd q (by decide)⟩
          · rw [hj 8 u (by omega) (by omega) c, hj 9 u (by omega) (by omega) c]
            exact ⟨Iff.rfl, fun _ => rfl⟩
    · refine ⟨fun u hu2 q => ?_, fun u v hu2 hv2 huv qu qv => ?_⟩
      · by_cases c : u = t
        · subst c; rw [t9, qx]; exact n24.2.1
        · rw [hj 8 u (by omega) (by omega) c] at q
          rw [hj 9 u (by omega) (by omega) c]
          have := i14.1 u hu2 q
          omega
      · by_cases c : u = t
        · subst c
          have hvt : v ≠ u := fun e => huv e.symm
          rw [hj 8 v (by omega) (by omega) hvt] at qv
          rw [t9, hj 9 v (by omega) (by omega) hvt]
          exact fun e => (hu v hv2 hvt qv).1 e.symm
        · rw [hj 8 u (by omega) (by omega) c] at qu
          rw [hj 9 u (by omega) (by omega) c]
          by_cases c2 : v = t
          · subst c2
            rw [t9]; exact (hu u hu2 c qu).1
          · rw [hj 8 v (by omega) (by omega) c2] at qv
            rw [hj 9 v (by omega) (by omega) c2]
            exact i14.2 u v hu2 hv2 huv qu qv
