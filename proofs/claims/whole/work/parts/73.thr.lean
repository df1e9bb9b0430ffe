theorem sum_fr {τ τ' : pt_St} (h1 : τ' 0 1 = τ 0 1) (h2 : τ' 0 2 = τ 0 2) : ∀ n : Nat, (∀ u, u < n → (τ' 8 u = 2 ↔ τ 8 u = 2) ∧ (τ 8 u = 2 → τ' 9 u = τ 9 u)) → rl_sum τ' n = rl_sum τ n
  | 0, _ => rfl
  | n + 1, h => by
    simp only [rl_sum]
    rw [sum_fr h1 h2 n (fun u hu => h u (by omega))]
    obtain ⟨q1, q2⟩ := h n (by omega)
    by_cases c : τ 8 n = 2
    · rw [if_pos c, if_pos (q1.mpr c), q2 c, rl_len_fr h1 h2]
    · rw [if_neg c, if_neg (fun q => c (q1.mp q))]
/-- a thread alone is changed, that neither waits nor works, before and behind -/
theorem thr_upd {σ τ σ' τ' : pt_St} {t : Nat} (h : rl_R σ τ) (hb : τ 0 14 = 1) (ht : t < 6) (hs : ∀ c, c ≠ 9 + t → σ' c = σ c) (hk : ∀ k, k < 8 ∨ 13 < k → τ' k = τ k) (hj : ∀ k j, j ≠ t → τ' k j = τ k j) (o1 : τ 8 t ≠ 1 ∧ τ 8 t ≠ 2) (o2 : τ' 8 t ≠ 1 ∧ τ' 8 t ≠ 2)
    (ag : σ' (9 + t) 0 = nI t ∧ σ' (9 + t) 1 = τ' 8 t ∧ σ' (9 + t) 2 = τ' 9 t ∧ σ' (9 + t) 5 = τ' 11 t ∧ σ' (9 + t) 6 = τ' 12 t ∧ σ' (9 + t) 7 = τ' 13 t) (hT : rl_T σ' τ' t) : rl_R σ' τ' := by
  obtain ⟨hA, hB, hE, hP, hI⟩ := id h
  obtain ⟨g1, g2, g3, g4, g5, g6, g7, g8, g9, g10, g11, g12, g13, g14, g15, g16, g17, g18⟩ := id hE
  obtain ⟨i1, i2, i3, i4, i5, i6, i7, i8, ⟨l1, l2, l3, l4⟩, i10, i11, i12, i13, i14⟩ := hI hb
  have h0 : τ' 0 = τ 0 := hk 0 (by omega)
  have hst : ∀ u x, u < 6 → (x = 1 ∨ x = 2) → (τ' 8 u = x ↔ τ 8 u = x) := by
    intro u x hu hx
    by_cases c : u = t
    · subst c
      rcases hx with rfl | rfl
      · exact ⟨fun q => absurd q o2.1, fun q => absurd q o1.1⟩
      · exact ⟨fun q => absurd q o2.2, fun q => absurd q o1.2⟩
    · rw [hj 8 u c]
  refine ⟨rl_A_fr hA (fun k hk => by rw [hs k (by omega)]) (by rw [hs 4 (by omega)]) (fun j _ => by rw [h0]) (fun k k1 k2 => hk k (by omega)), rl_B_fr hB (fun j _ => by rw [h0]) (hk 2 (by omega)), ?_, fun q => rl_P_fr (hP (by rw [← h0]; exact q)) (by rw [hs 4 (by omega)]) (by rw [hs 4 (by omega)]) (hs 19 (by omega)) (fun j _ => by rw [h0]) (fun k hk2 => hk k (by omega)), fun _ => ?_⟩
  · unfold rl_E
    rw [hs 5 (by omega), hs 6 (by omega), hs 7 (by omega), hs 8 (by omega), hs 24 (by omega), hs 25 (by omega), hs 26 (by omega), hs 20 (by omega), hs 21 (by omega), h0, hk 16 (by omega), hk 14 (by omega), hk 15 (by omega), hk 6 (by omega), hk 7 (by omega)]
    refine ⟨g1, g2, g3, g4, g5, g6, g7, g8, g9, g10, g11, g12, g13, g14, g15, g16, g17, fun u hu => ?_⟩
    by_cases c : u = t
    · subst c; exact ag
    · rw [hs (9 + u) (by omega), hj 8 u c, hj 9 u c, hj 11 u c, hj 12 u c, hj 13 u c]; exact g18 u hu
  · have hm := rl_many_fr (τ := τ) (τ' := τ') (by rw [h0]) (by rw [h0])
    have hl := fun b => rl_len_fr (τ := τ) (τ' := τ') (by rw [h0]) (by rw [h0]) b
    refine ⟨by rw [h0]; exact i1, by rw [h0, hm]; exact i2, by rw [hs 7 (by omega), h0]; exact i3, by rw [h0]; exact i4, by rw [h0]; exact i5, by rw [h0]; exact i6, by rw [h0, hk 14 (by omega), hk 15 (by omega)]; exact i7, fun u hu => ?_, ?_, ?_, ?_, ?_, by rw [hk 16 (by omega), h0]; exact i13, ?_⟩
    · by_cases c : u = t
      · subst c; exact hT
      · obtain ⟨y1, y2, y3, y4, y5, y6, y7, y8, y9⟩ := i8 u hu
        unfold rl_T
        rw [h0, hj 8 u c, hj 9 u c, hj 10 u c, hk 7 (by omega), hk 14 (by omega), hs (9 + u) (by omega), hl]
        refine ⟨y1, y2, y3, y4, y5, y6, y7, y8, fun q1 q2 v hv hvu => ?_⟩
        by_cases cv : v = t
        · subst cv; exact o2
        · rw [hj 8 v cv]; exact y9 q1 q2 v hv hvu
    · refine ⟨by rw [h0]; exact l1, fun u hu q => by rw [h0, hk 17 (by omega)]; exact l2 u hu ((hst u 1 hu (Or.inl rfl)).mp q), fun i hi => ?_, fun i j hi hj2 hq => ?_⟩
      · rw [h0] at hi
        obtain ⟨q1, u, q2, q3, q4⟩ := l3 i hi
        rw [hs 23 (by omega), hk 17 (by omega)]
        exact ⟨q1, u, q2, q3, (hst u 1 q2 (Or.inl rfl)).mpr q4⟩
      · rw [h0] at hi hj2
        rw [hk 17 (by omega)] at hq
        exact l4 i j hi hj2 hq
    · rw [h0, hl, hk 17 (by omega)]
      intro q
      obtain ⟨-, u, q2, q3, q4⟩ := l3 0 (by omega)
      have : (τ 17 0).toInt.toNat = u := by rw [q3, i_nI (by omega)]; omega
      have hut : u ≠ t := fun e => o1.1 (by rw [← e]; exact q4)
      rw [this, hj 9 u hut, ← this]
      exact i10 q
    · rw [h0]
      rcases i11 with q | ⟨q1, q2, q3⟩
      · exact Or.inl q
      · refine Or.inr ⟨q1, q2, fun u hu => ?_⟩
        rw [ne_eq, ne_eq, hst u 1 hu (Or.inl rfl), hst u 2 hu (Or.inr rfl)]
        exact q3 u hu
    · rw [h0, sum_fr (by rw [h0]) (by rw [h0]) 6 (fun u hu => ⟨hst u 2 hu (Or.inr rfl), fun q => hj 9 u (fun e => o1.2 (by rw [← e]; exact q))⟩)]
      exact i12
    · have hne : ∀ u, u < 6 → (τ' 8 u = 1 ∨ τ' 8 u = 2) → u ≠ t ∧ (τ 8 u = 1 ∨ τ 8 u = 2) := fun u hu q => by
        by_cases c : u = t
        · subst c; exact absurd q (by rw [not_or]; exact o2)
        · rw [hj 8 u c] at q; exact ⟨c, q⟩
      refine ⟨fun u hu q => ?_, fun u v hu hv huv qu qv => ?_⟩
      · obtain ⟨c, q1⟩ := hne u hu q
        rw [hj 9 u c, h0]; exact i14.1 u hu q1
      · obtain ⟨c, q1⟩ := hne u hu qu
        obtain ⟨c2, q2⟩ := hne v hv qv
        rw [hj 9 u c, hj 9 v c2]; exact i14.2 u v hu hv huv q1 q2
/-- a thread that is free, or holds a pack, ends -/
theorem end_ok {σ τ : pt_St} {t : Nat} (h : rl_R σ τ) (hb : τ 0 14 = 1) (ht : t < 6) (htt : (t : Int) < (τ 0 15).toInt) (o1 : τ 8 t ≠ 1 ∧ τ 8 t ≠ 2) : ∃ σ' τ', f_X8_end σ (nI t) = some σ' ∧ f_X10_ends τ (nI t) = some τ' ∧ rl_R σ' τ' ∧ τ' 0 = τ 0 := by
  have qt : (nI t).toNatClampNeg = t := nI_clamp (by omega)
  obtain ⟨g0, g1, g2, g3, g4, g5⟩ := h.2.2.1.2.2.2.2.2.2.2.2.2.2.2.2.2.2.2.2.2 t ht
  refine ⟨_, _, by rw [f_X8_end, f_X8_becomeFree, qt, pt_doe, pt_doe, pt_doe, pt_doe, pt_b1e, pt_doe, pt_doe], by rw [f_X10_ends, if_pos (nI_in ht (by omega)), qt, pt_doe, pt_doe, pt_doe], thr_upd h hb ht (fun c hc => by simp (disch := omega) only [pt_ne]) (fun k hk => by simp (disch := omega) only [pt_ne]) (fun k j hj => by rw [pt_njk hj, pt_njk hj, pt_njk hj]) o1 ?_ ?_ ?_, by simp (disch := omega) only [pt_ne]⟩
  · simp (disch := omega) only [pt_ne, pt_eq]
    exact ⟨by decide, by decide⟩
  · simp (disch := omega) only [pt_ne, pt_nj, pt_eq]
    exact ⟨g0, trivial, trivial, g3, by rw [g4], g5⟩
  · unfold rl_T
    simp (disch := omega) only [pt_ne, pt_nj, pt_eq]
    refine ⟨by decide, fun q => by omega, fun _ => trivial, fun q => ?_, fun q => absurd q (by decide), fun _ => trivial, fun q => ?_, fun q => absurd q (by decide), fun q => absurd q (by decide)⟩
    · rcases q with q | q | q <;> exact absurd q (by decide)
    · rcases q with q | q <;> exact absurd q (by decide)
