/-! ===== memory given back, both sides ===== -/
theorem len_ok {σ τ : pt_St} (hA : rl_A σ τ) (hB : rl_B τ) {x : Int32} (h0 : 0 ≤ x.toInt) (h1 : x.toInt < rl_many τ) : ∃ L : Nat, 1 ≤ L ∧ L ≤ 32 ∧ rl_len τ x.toInt = (L : Int) ∧ f_X10_lengthOf τ x = some (nI L, τ) ∧ f_X2_bytesOf σ x = some (nI L, σ) := by
  obtain ⟨e1, e2, e3, -⟩ := hA
  obtain ⟨b1, b2, b3, b4, -⟩ := hB
  obtain ⟨s, hs⟩ : ∃ s, s = (τ 0 1).toInt.toNat := ⟨_, rfl⟩
  obtain ⟨z, hz⟩ : ∃ z, z = (τ 0 2).toInt.toNat := ⟨_, rfl⟩
  obtain ⟨b, hb⟩ : ∃ b, b = x.toInt.toNat := ⟨_, rfl⟩
  have t1 : τ 0 1 = nI s := by rw [hs]; exact i_of b1
  have t2 : τ 0 2 = nI z := by rw [hz]; exact i_of (by omega)
  have tx : x = nI b := by rw [hb]; exact i_of h0
  rw [rl_many_nat t1 t2 (by omega) (by omega) (by omega)] at h1
  have hbl := blk_lt (s := s) (z := z) (b := b) (by omega) (by omega)
  have qb : x.toInt = (b : Int) := by omega
  refine ⟨min z (s - b * z), by omega, by omega, ?_, by rw [tx]; exact len_R t1 t2 (by omega) (by omega) (by omega), by rw [tx]; exact len_C (by rw [e1, t1]) (by rw [e3, t2]) (by omega) (by omega) (by omega) hbl⟩
  unfold rl_len
  rw [qb]
  have q1 : (τ 0 1).toInt = (s : Int) := by omega
  have q2 : (τ 0 2).toInt = (z : Int) := by omega
  have q3 : (b : Int) * (z : Int) = ((b * z : Nat) : Int) := by rw [Int.natCast_mul]
  rw [q1, q2, q3]
  by_cases c : (z : Int) ≤ (s : Int) - ((b * z : Nat) : Int)
  · rw [if_pos c]; omega
  · rw [if_neg c]; omega
theorem sum_nn {τ : pt_St} : ∀ n : Nat, (∀ u, u < n → τ 8 u = 2 → 0 ≤ rl_len τ (τ 9 u).toInt) → 0 ≤ rl_sum τ n
  | 0, _ => by simp only [rl_sum]; omega
  | n + 1, h => by
    have h1 := sum_nn n (fun u hu => h u (by omega))
    simp only [rl_sum]
    by_cases c : τ 8 n = 2
    · rw [if_pos c]; have := h n (by omega) c; omega
    · rw [if_neg c]; omega
theorem sum_ge {τ : pt_St} {t : Nat} : ∀ n : Nat, (∀ u, u < n → τ 8 u = 2 → 0 ≤ rl_len τ (τ 9 u).toInt) → t < n → τ 8 t = 2 → rl_len τ (τ 9 t).toInt ≤ rl_sum τ n
  | 0, _, h, _ => by omega
  | n + 1, h, ht, h2 => by
    have h1 := sum_nn n (fun u hu => h u (by omega))
    simp only [rl_sum]
    by_cases c : n = t
    · subst c; rw [if_pos h2]; omega
    · have h3 := sum_ge n (fun u hu => h u (by omega)) (by omega) h2
      by_cases c2 : τ 8 n = 2
      · rw [if_pos c2]; have := h n (by omega) c2; omega
      · rw [if_neg c2]; omega
theorem sum_gb {τ τ' : pt_St} {G : Nat → Bool} {L : Nat → Nat} {t : Nat} (g0 : G t = false) (g2 : τ 8 t = 2) (g3 : τ' 8 t ≠ 2) (g4 : rl_len τ (τ 9 t).toInt = (L t : Int)) : ∀ n : Nat, (∀ u, u < n → u ≠ t → G u = true → τ 8 u ≠ 2 ∧ τ' 8 u = 2 ∧ rl_len τ' (τ' 9 u).toInt = (L u : Int)) → (∀ u, u < n → u ≠ t → G u = false → (τ' 8 u = 2 ↔ τ 8 u = 2) ∧ rl_len τ' (τ' 9 u).toInt = rl_len τ (τ 9 u).toInt) → rl_sum τ' n + (if t < n then (L t : Int) else 0) = rl_sum τ n + gs_ G L n
  | 0, _, _ => by simp only [rl_sum, gs_]; rw [if_neg (by omega)]
  | n + 1, h1, h2 => by
    have ih := sum_gb g0 g2 g3 g4 n (fun u hu => h1 u (by omega)) (fun u hu => h2 u (by omega))
    simp only [rl_sum, gs_]
    by_cases c : n = t
    · subst c
      rw [if_neg (Nat.lt_irrefl n)] at ih
      rw [if_neg g3, if_pos g2, g0, if_neg (show ¬ false = true by simp), g4, if_pos (Nat.lt_succ_self n)]
      omega
    · have e : (if t < n + 1 then (L t : Int) else 0) = (if t < n then (L t : Int) else 0) := by
        by_cases c2 : t < n
        · rw [if_pos c2, if_pos (by omega)]
        · rw [if_neg c2, if_neg (by omega)]
      rw [e]
      cases hG : G n with
      | true =>
        obtain ⟨q1, q2, q3⟩ := h1 n (by omega) c hG
        rw [if_pos q2, if_neg q1, if_pos rfl, q3]
        omega
      | false =>
        obtain ⟨q1, q2⟩ := h2 n (by omega) c hG
        by_cases c3 : τ 8 n = 2
        · rw [if_pos c3, if_pos (q1.mpr c3), if_neg (show ¬ false = true by simp), q2]; omega
        · rw [if_neg c3, if_neg (fun q => c3 (q1.mp q)), if_neg (show ¬ false = true by simp)]; omega
set_option maxHeartbeats 8000000 in
theorem gb_main {σ τ τc σ0 : pt_St} {t : Nat} (h : rl_R σ τ) (hb : τ 0 14 = 1) (ht : t < 6) (h2 : τ 8 t = 2)
    (hk : ∀ k, k ≠ 0 → k < 8 ∨ 15 < k → τc k = τ k) (hj : ∀ k j, 8 ≤ k → k ≤ 13 → j ≠ t → τc k j = τ k j) (h0 : ∀ j, j ≠ 27 → j ≠ 34 → j ≠ 35 → j ≠ 36 → τc 0 j = τ 0 j)
    (o2 : (τc 8 t = 0 ∧ τc 9 t = -1) ∨ (τc 8 t = 3 ∧ τc 9 t = τ 9 t)) (z1 : ∀ c, c ≠ 9 + t → σ0 c = σ c) (z2 : ∀ j, j ≠ 3 → σ0 (9 + t) j = σ (9 + t) j) :
    ∃ σg τg, f_X1_giveBack σ0 (σ (9 + t) 4) = some σg ∧ f_X10_givesBack τc (σ (9 + t) 4) = some τg ∧ (∀ c, c ≠ 6 → c ≠ 23 → (c < 9 ∨ 14 < c) → σg c = σ c) ∧ (∀ j, j ≠ 3 → σg (9 + t) j = σ (9 + t) j) ∧ (∀ k, k ≠ 0 → k ≠ 8 → k ≠ 10 → k ≠ 17 → τg k = τc k) ∧ (∀ j, j ≠ 31 → j ≠ 33 → τg 0 j = τc 0 j) ∧ τg 8 t = τc 8 t ∧
    ∀ σ', (∀ c, c ≠ 9 + t → c ≠ 5 → c ≠ 8 → c ≠ 25 → c ≠ 26 → σ' c = σg c) → (∀ j, j ≠ 9 → j ≠ 10 → j ≠ 11 → σ' 5 j = σ 5 j) → σ' 5 9 = τc 0 34 → σ' 5 10 = τc 0 35 → σ' 5 11 = τc 0 36 → σ' 8 2 = τc 0 27 → σ' 25 = τc 14 → σ' 26 = τc 15 →
      (σ' (9 + t) 0 = nI t ∧ σ' (9 + t) 1 = τc 8 t ∧ σ' (9 + t) 2 = τc 9 t ∧ σ' (9 + t) 5 = τc 11 t ∧ σ' (9 + t) 6 = τc 12 t ∧ σ' (9 + t) 7 = τc 13 t) → σ' (9 + t) 3 = -1 →
      (0 ≤ (τc 0 27).toInt ∧ (τc 0 27).toInt ≤ rl_cnt (τc 14) 40 ∧ (∀ j : Nat, (τ 0 24).toInt ≤ (j : Int) → j < 40 → τc 14 j = 0) ∧ ∀ i : Nat, (i : Int) < (τc 0 27).toInt → 0 ≤ (τc 15 i).toInt ∧ (τc 15 i).toInt < (τ 0 24).toInt) →
      (∀ j : Nat, (j : Int) ≠ (τ 9 t).toInt → (τc 14 j = 0 ↔ τ 14 j = 0)) →
      ((τc 0 34 = -1 ∧ τc 0 35 = 0) ∨ (0 ≤ (τc 0 34).toInt ∧ 1 ≤ (τc 0 35).toInt ∧ ∀ u, u < 6 → u ≠ t → τ 8 u ≠ 1 ∧ τ 8 u ≠ 2)) → rl_R σ' τg := by
  obtain ⟨hA, hB, hE, hP, hI⟩ := id h
  obtain ⟨e1, e2, e3, e4, e5, e6, e7, e8, e9, e10, e11⟩ := id hA
  obtain ⟨b1, b2, b3, b4, b5, b6, b7, b8, b9, b10, b11, b12, b13, b14⟩ := id hB
  obtain ⟨g1, g2, g3, g4, g5, g6, g7, g8, g9, g10, g11, g12, g13, g14, g15, g16, g17, g18⟩ := id hE
  obtain ⟨i1, i2, i3, i4, i5, i6, i7, i8, i9, i10, i11, i12, i13, i14⟩ := id (hI hb)
  have hm6 := rl_L_le i9
  obtain ⟨l1, l2, l3, l4⟩ := id i9
  have hmy := rl_many_le hB
  have h9 : τ 0 9 = 1 := b14 hb
  obtain ⟨p1, p2, p3, p4, p5, p6⟩ := hP h9
  -- lengths
  obtain ⟨L, hL⟩ : ∃ L : Nat → Nat, L = fun u => (rl_len τ (τ 9 u).toInt).toNat := ⟨_, rfl⟩
  have hlen : ∀ u, u < 6 → (τ 8 u = 1 ∨ τ 8 u = 2) → 1 ≤ L u ∧ L u ≤ 32 ∧ rl_len τ (τ 9 u).toInt = (L u : Int) ∧ f_X10_lengthOf τ (τ 9 u) = some (nI (L u), τ) ∧ σ (9 + u) 4 = nI (L u) := fun u hu hst => by
    obtain ⟨y1, y2, y3, y4, y5, y6, y7, y8, y9⟩ := i8 u hu
    have y4' := y4 (by rcases hst with q | q <;> simp [q])
    obtain ⟨Lx, v1, v2, v3, v4, -⟩ := len_ok hA hB (x := τ 9 u) y4'.1 (by omega)
    have e : L u = Lx := by rw [hL]; simp only; omega
    rw [e]
    refine ⟨v1, v2, v3, v4, ?_⟩
    rw [i_eq, y7 hst, v3, i_nI (by omega)]
  have hLt := hlen t ht (Or.inr h2)
  obtain ⟨m, hm⟩ : ∃ m, m = (τ 0 33).toInt.toNat := ⟨_, rfl⟩
  have hm2 : τ 0 33 = nI m := by rw [hm]; exact i_of l1
  obtain ⟨q, hq⟩ : ∃ q : Nat → Nat, q = fun i => (τ 17 i).toInt.toNat := ⟨_, rfl⟩
  have hql : ∀ i, i < m → q i < 6 ∧ σ 23 i = nI (q i) ∧ τ 17 i = nI (q i) ∧ τ 8 (q i) = 1 := fun i hi => by
    obtain ⟨v1, u, v2, v3, v4⟩ := l3 i (by omega)
    have e : q i = u := by rw [hq]; simp only; rw [v3, i_nI (by omega)]; omega
    rw [e]; exact ⟨v2, by rw [v1, v3], v3, v4⟩
  have hqi : ∀ i j, i < m → j < m → q i = q j → i = j := fun i j hi hj2 hqq => l4 i j (by omega) (by omega) (by rw [(hql i hi).2.2.1, (hql j hj2).2.2.1, hqq])
  have hqt : ∀ i, i < m → q i ≠ t := fun i hi e => by
    have := (hql i hi).2.2.2
    rw [e, h2] at this
    exact absurd this (by decide)
  have hsn := sum_nn (τ := τ) 6 (fun u hu hs => by have := (hlen u hu (Or.inr hs)).2.2.1; omega)
  have hsg := sum_ge (τ := τ) (t := t) 6 (fun u hu hs => by have := (hlen u hu (Or.inr hs)).2.2.1; omega) ht h2
  obtain ⟨v, hv⟩ : ∃ v, v = τ 0 31 + nI (L t) := ⟨_, rfl⟩
  have hv2 : v.toInt = (τ 0 31).toInt + (L t : Int) := by rw [hv, i_add (by rw [i_nI (by omega)]; omega), i_nI (by omega)]
  obtain ⟨σ1, hσ1⟩ : ∃ x, x = pt_put σ0 6 2 v := ⟨_, rfl⟩
  obtain ⟨τ1, hτ1⟩ : ∃ x, x = pt_put τc 0 31 v := ⟨_, rfl⟩
  have t1k : ∀ k, k ≠ 0 → τ1 k = τc k := fun k k0 => by rw [hτ1, pt_ne k0]
  have t1j : ∀ j, j ≠ 31 → τ1 0 j = τc 0 j := fun j hj => by rw [hτ1, pt_nj hj]
  have H1 : gb_H σ1 τ1 m q L := by
    refine ⟨by omega, ?_, ?_, ?_, fun i hi => ?_, hqi⟩
    · rw [hσ1, hτ1, pt_eq, pt_eq]
    · rw [hσ1, pt_nj (by omega), z1 6 (by omega), g8, hm2]
    · rw [t1j 33 (by omega), h0 33 (by omega) (by omega) (by omega) (by omega), hm2]
    · obtain ⟨u1, u2, u3, u4⟩ := hql i hi
      obtain ⟨w1, w2, w3, w4, w5⟩ := hlen (q i) u1 (Or.inl u4)
      have ut := hqt i hi
      refine ⟨u1, ?_, ?_, ?_, ?_, w2, ?_⟩
      · rw [hσ1, pt_ne (by omega), z1 23 (by omega), u2]
      · rw [t1k 17 (by omega), hk 17 (by omega) (by omega), u3]
      · rw [t1k 8 (by omega), hj 8 _ (by omega) (by omega) ut, u4]
      · rw [hσ1, pt_ne (by omega), z1 _ (by omega), w5]
      · rw [t1k 9 (by omega), hj 9 _ (by omega) (by omega) ut]
        exact len_fr (by rw [t1j 1 (by omega), h0 1 (by omega) (by omega) (by omega) (by omega)]) (by rw [t1j 2 (by omega), h0 2 (by omega) (by omega) (by omega) (by omega)]) w4
  have e31 : τ1 0 31 = v := by rw [hτ1, pt_eq]
  obtain ⟨σg, τg, m', G, w1, w2, x1, x2, x3, x4, x5, x6, x7, x8, x9, x10, x11, x12, x13, x14, x15, x16, x17⟩ := gb_lp (a1 := nI (L t)) (b1 := nI (L t)) m pt_F pt_F q σ1 τ1 H1 (by rw [e31]; omega) (by rw [e31]; omega) (by unfold pt_F; omega) (by unfold pt_F; omega)
  have hGt : G t = false := by
    cases hG : G t with
    | false => rfl
    | true =>
      obtain ⟨i, v1, v2⟩ := x14 t hG
      exact absurd v2 (hqt i (by omega))
  obtain ⟨yt1, yt2, yt3, yt4⟩ := x6 t ht hGt
  have tg8 : τg 8 t = τc 8 t := by rw [yt1, t1k 8 (by omega)]
  have tgk : ∀ k, k ≠ 0 → k ≠ 8 → k ≠ 10 → k ≠ 17 → τg k = τc k := fun k k0 k8 k10 k17 => by rw [x3 k k0 k8 k10 k17, t1k k k0]
  have tgj : ∀ j, j ≠ 31 → j ≠ 33 → τg 0 j = τc 0 j := fun j j31 j33 => by rw [x4 j j31 j33, t1j j j31]
  have sgt : ∀ j, j ≠ 3 → σg (9 + t) j = σ (9 + t) j := fun j j3 => by
    by_cases c : j = 1
    · subst c; rw [yt3, hσ1, pt_ne (by omega), z2 1 (by omega)]
    · rw [x2 t j ht c j3, hσ1, pt_ne (by omega), z2 j j3]
  refine ⟨σg, τg, ?_, ?_, fun c c6 c23 c9 => ?_, sgt, tgk, tgj, tg8, ?_⟩
  · rw [hLt.2.2.2.2, f_X1_giveBack, pt_doe, z1 6 (by omega), g9, ← hv, ← hσ1, show σ1 6 1 = nI m from H1.2.2.1]
    exact w1
  · rw [hLt.2.2.2.2, f_X10_givesBack, pt_doe, h0 31 (by omega) (by omega) (by omega) (by omega), ← hv, ← hτ1]
    exact w2
  · rw [x1 c c6 c23 c9, hσ1, pt_ne c6, z1 c (by omega)]
  · intro σ' s1 s5 s59 s510 s511 s82 s25 s26 ag s3 n7 n14 n11
    -- what the others are
    have oG : ∀ u, u < 6 → u ≠ t → G u = true → τ 8 u = 1 ∧ τg 8 u = 2 ∧ τg 10 u = 0 ∧ σg (9 + u) 1 = 2 ∧ σg (9 + u) 3 = 0 := fun u hu hut hG => by
      have := x5 u hu hG
      rw [t1k 8 (by omega), hj 8 u (by omega) (by omega) hut] at this
      exact this
    have oN : ∀ u, u < 6 → u ≠ t → G u = false → τg 8 u = τ 8 u ∧ τg 10 u = τ 10 u ∧ σg (9 + u) 1 = σ (9 + u) 1 ∧ σg (9 + u) 3 = σ (9 + u) 3 := fun u hu hut hG => by
      have := x6 u hu hG
      rw [t1k 8 (by omega), hj 8 u (by omega) (by omega) hut, t1k 10 (by omega), hj 10 u (by omega) (by omega) hut, hσ1, pt_ne (by omega), z1 _ (by omega)] at this
      exact this
    have o9 : ∀ u, u ≠ t → τg 9 u = τ 9 u := fun u hut => by rw [tgk 9 (by omega) (by omega) (by omega) (by omega), hj 9 u (by omega) (by omega) hut]
    have sgu : ∀ u j, u < 6 → u ≠ t → j ≠ 1 → j ≠ 3 → σg (9 + u) j = σ (9 + u) j := fun u j hu hut j1 j3 => by
      rw [x2 u j hu j1 j3, hσ1, pt_ne (by omega), z1 _ (by omega)]
    have tg0 : ∀ j, j ≠ 27 → j ≠ 34 → j ≠ 35 → j ≠ 36 → j ≠ 31 → j ≠ 33 → τg 0 j = τ 0 j := fun j a b c d e f => by rw [tgj j e f, h0 j a b c d]
    have e1' := tg0 1 (by omega) (by omega) (by omega) (by omega) (by omega) (by omega)
    have e2' := tg0 2 (by omega) (by omega) (by omega) (by omega) (by omega) (by omega)
    have hmn := rl_many_fr e1' e2'
    have hln := fun b => rl_len_fr e1' e2' b
    have tgk2 : ∀ k, k ≠ 0 → k < 8 ∨ (k = 16) → τg k = τ k := fun k k0 k8 => by rw [tgk k k0 (by omega) (by omega) (by omega), hk k k0 (by omega)]
    have ot : τg 8 t ≠ 1 ∧ τg 8 t ≠ 2 := by
      rw [tg8]
      rcases o2 with ⟨o, -⟩ | ⟨o, -⟩ <;> rw [o] <;> exact ⟨by decide, by decide⟩
    -- who waits or works behind it waited or worked before
    have oB : ∀ u, u < 6 → (τg 8 u = 1 ∨ τg 8 u = 2) → u ≠ t ∧ (τ 8 u = 1 ∨ τ 8 u = 2) := fun u hu qq => by
      have hut : u ≠ t := fun e => by subst e; rcases qq with r | r; exact ot.1 r; exact ot.2 r
      refine ⟨hut, ?_⟩
      cases hG : G u with
      | true => exact Or.inl (oG u hu hut hG).1
      | false => rw [(oN u hu hut hG).1] at qq; exact qq
    have o1 : ∀ u, u < 6 → τg 8 u = 1 → u ≠ t ∧ G u = false ∧ τ 8 u = 1 := fun u hu qq => by
      obtain ⟨hut, -⟩ := oB u hu (Or.inl qq)
      cases hG : G u with
      | true => rw [(oG u hu hut hG).2.1] at qq; exact absurd qq (by decide)
      | false => exact ⟨hut, rfl, by rw [← (oN u hu hut hG).1]; exact qq⟩
    have s' : ∀ c, c ≠ 6 → c ≠ 23 → (c < 9 ∨ 14 < c) → c ≠ 5 → c ≠ 8 → c ≠ 25 → c ≠ 26 → σ' c = σ c := fun c c6 c23 c9 c5 c8 c25 c26 => by
      rw [s1 c (by omega) c5 c8 c25 c26, x1 c c6 c23 c9, hσ1, pt_ne c6, z1 c (by omega)]
    refine ⟨rl_A_fr hA (fun k hk2 => s' k (by omega) (by omega) (by omega) (by omega) (by omega) (by omega) (by omega)) (by rw [s' 4 (by omega) (by omega) (by omega) (by omega) (by omega) (by omega) (by omega)]) (fun j hj2 => tg0 j (by omega) (by omega) (by omega) (by omega) (by omega) (by omega)) (fun k k1 k2 => tgk2 k (by omega) (by omega)), rl_B_fr hB (fun j hj2 => tg0 j (by omega) (by omega) (by omega) (by omega) (by omega) (by omega)) (tgk2 2 (by omega) (by omega)), ?_, fun _ => rl_P_fr (hP h9) (by rw [s' 4 (by omega) (by omega) (by omega) (by omega) (by omega) (by omega) (by omega)]) (by rw [s' 4 (by omega) (by omega) (by omega) (by omega) (by omega) (by omega) (by omega)]) (s' 19 (by omega) (by omega) (by omega) (by omega) (by omega) (by omega) (by omega)) (fun j hj2 => tg0 j (by omega) (by omega) (by omega) (by omega) (by omega) (by omega)) (fun k hk2 => tgk2 k (by omega) (by omega)), fun _ => ?_⟩
    · refine ⟨?_, ?_, ?_, ?_, ?_, ?_, ?_, ?_, ?_, ?_, ?_, ?_, ?_, ?_, ?_, ?_, ?_, fun u hu => ?_⟩
      · rw [s5 6 (by omega) (by omega) (by omega), tg0 15 (by omega) (by omega) (by omega) (by omega) (by omega) (by omega)]; exact g1
      · rw [s5 7 (by omega) (by omega) (by omega), tg0 23 (by omega) (by omega) (by omega) (by omega) (by omega) (by omega)]; exact g2
      · rw [s5 8 (by omega) (by omega) (by omega), tg0 24 (by omega) (by omega) (by omega) (by omega) (by omega) (by omega)]; exact g3
      · rw [s59, tgj 34 (by omega) (by omega)]
      · rw [s510, tgj 35 (by omega) (by omega)]
      · rw [s511, tgj 36 (by omega) (by omega)]
      · rw [s5 12 (by omega) (by omega) (by omega), tg0 37 (by omega) (by omega) (by omega) (by omega) (by omega) (by omega)]; exact g7
      · rw [s1 6 (by omega) (by omega) (by omega) (by omega) (by omega), x8, x9]
      · rw [s1 6 (by omega) (by omega) (by omega) (by omega) (by omega), x10]
      · rw [s' 7 (by omega) (by omega) (by omega) (by omega) (by omega) (by omega) (by omega), tg0 29 (by omega) (by omega) (by omega) (by omega) (by omega) (by omega)]; exact g10
      · rw [s' 7 (by omega) (by omega) (by omega) (by omega) (by omega) (by omega) (by omega), tg0 30 (by omega) (by omega) (by omega) (by omega) (by omega) (by omega)]; exact g11
      · rw [s82, tgj 27 (by omega) (by omega)]
      · rw [s' 24 (by omega) (by omega) (by omega) (by omega) (by omega) (by omega) (by omega), tgk2 16 (by omega) (by omega)]; exact g13
      · rw [s25, tgk 14 (by omega) (by omega) (by omega) (by omega)]
      · rw [s26, tgk 15 (by omega) (by omega) (by omega) (by omega)]
      · rw [s' 20 (by omega) (by omega) (by omega) (by omega) (by omega) (by omega) (by omega), tgk2 6 (by omega) (by omega)]; exact g16
      · rw [s' 21 (by omega) (by omega) (by omega) (by omega) (by omega) (by omega) (by omega), tgk2 7 (by omega) (by omega)]; exact g17
      · by_cases hut : u = t
        · subst hut
          rw [tg8, tgk 9 (by omega) (by omega) (by omega) (by omega), tgk 11 (by omega) (by omega) (by omega) (by omega), tgk 12 (by omega) (by omega) (by omega) (by omega), tgk 13 (by omega) (by omega) (by omega) (by omega)]
          exact ag
        · obtain ⟨y0, y1, y2, y3, y4, y5⟩ := g18 u hu
          rw [s1 (9 + u) (by omega) (by omega) (by omega) (by omega) (by omega), sgu u 0 hu hut (by omega) (by omega), sgu u 2 hu hut (by omega) (by omega), sgu u 5 hu hut (by omega) (by omega), sgu u 6 hu hut (by omega) (by omega), sgu u 7 hu hut (by omega) (by omega), o9 u hut, tgk 11 (by omega) (by omega) (by omega) (by omega), hj 11 u (by omega) (by omega) hut, tgk 12 (by omega) (by omega) (by omega) (by omega), hj 12 u (by omega) (by omega) hut, tgk 13 (by omega) (by omega) (by omega) (by omega), hj 13 u (by omega) (by omega) hut]
          refine ⟨y0, ?_, y2, y3, y4, y5⟩
          cases hG : G u with
          | true => rw [(oG u hu hut hG).2.1, (oG u hu hut hG).2.2.2.1]
          | false => rw [(oN u hu hut hG).1, (oN u hu hut hG).2.2.1]; exact y1
    · have a0 := fun j (h : j ≠ 27 ∧ j ≠ 34 ∧ j ≠ 35 ∧ j ≠ 36 ∧ j ≠ 31 ∧ j ≠ 33) => tg0 j h.1 h.2.1 h.2.2.1 h.2.2.2.1 h.2.2.2.2.1 h.2.2.2.2.2
      have qm' : (nI m').toInt = (m' : Int) := i_nI (by omega)
      refine ⟨by rw [a0 15 (by omega)]; exact i1, by rw [a0 16 (by omega), hmn]; exact i2, by rw [s' 7 (by omega) (by omega) (by omega) (by omega) (by omega) (by omega) (by omega), a0 5 (by omega)]; exact i3, by rw [a0 23 (by omega), a0 15 (by omega)]; exact i4, by rw [a0 24 (by omega), a0 16 (by omega)]; exact i5, by rw [a0 30 (by omega), a0 16 (by omega)]; exact i6, by rw [tgj 27 (by omega) (by omega), a0 24 (by omega), tgk 14 (by omega) (by omega) (by omega) (by omega), tgk 15 (by omega) (by omega) (by omega) (by omega)]; exact n7, fun u hu => ?_, ?_, ?_, ?_, ?_, by rw [tgk2 16 (by omega) (by omega), a0 16 (by omega)]; exact i13, ?_⟩
      · by_cases hut : u = t
        · subst hut
          unfold rl_T
          rw [tg8, tgk 9 (by omega) (by omega) (by omega) (by omega), s3, a0 15 (by omega), a0 16 (by omega)]
          obtain ⟨y1, y2, y3, y4, y5, y6, y7, y8, y9⟩ := i8 u hu
          have y4' := y4 (Or.inr (Or.inl h2))
          have hlt : ¬ (τ 0 15).toInt ≤ (u : Int) := fun e => by
            have := y2 e
            rw [h2] at this
            exact absurd this (by decide)
          rcases o2 with ⟨o, o'⟩ | ⟨o, o'⟩
          · rw [o, o']
            refine ⟨by decide, fun _ => rfl, fun _ => rfl, fun qq => ?_, fun qq => absurd qq (by decide), fun _ => rfl, fun qq => ?_, fun qq => absurd qq (by decide), fun qq => absurd qq (by decide)⟩
            · rcases qq with qq | qq | qq <;> exact absurd qq (by decide)
            · rcases qq with qq | qq <;> exact absurd qq (by decide)
          · rw [o, o']
            refine ⟨by decide, fun qq => absurd qq hlt, fun qq => ?_, fun qq => y4', fun qq => absurd qq (by decide), fun _ => rfl, fun qq => ?_, fun qq => absurd qq (by decide), fun qq => absurd qq (by decide)⟩
            · rcases qq with qq | qq <;> exact absurd qq (by decide)
            · rcases qq with qq | qq <;> exact absurd qq (by decide)
        · obtain ⟨y1, y2, y3, y4, y5, y6, y7, y8, y9⟩ := i8 u hu
          unfold rl_T
          rw [a0 15 (by omega), a0 16 (by omega), o9 u hut, tgk2 7 (by omega) (by omega), tgk 14 (by omega) (by omega) (by omega) (by omega), s1 (9 + u) (by omega) (by omega) (by omega) (by omega) (by omega), sgu u 4 hu hut (by omega) (by omega), hln]
          have hd : (τ 8 u = 1 ∨ τ 8 u = 2) → ((τ 9 u).toInt.toNat : Int) ≠ (τ 9 t).toInt := fun qq e => by
            have := i14.2 u t hu ht hut qq (Or.inr h2)
            have y4' := y4 (by rcases qq with qq | qq <;> simp [qq])
            exact this (i_eq.mpr (by omega))
          have hv9 : (τ 8 u = 1 ∨ τ 8 u = 2) → τc 14 (τ 9 u).toInt.toNat = 0 := fun qq => by
            rw [n14 _ (hd qq)]
            rcases qq with qq | qq
            · exact y8 qq
            · by_cases cz : τ 14 (τ 9 u).toInt.toNat = 0
              · exact cz
              · exact absurd h2 (y9 qq cz t ht (fun e => hut e.symm)).2
          cases hG : G u with
          | true =>
            obtain ⟨v1, v2, v3, v4, v5⟩ := oG u hu hut hG
            rw [v2, v3, v5]
            have y4' := y4 (Or.inl v1)
            have p6' := p6 (τ 9 u).toInt.toNat (by omega)
            refine ⟨by decide, fun qq => ?_, fun qq => ?_, fun _ => y4', fun _ => ⟨by decide, by rw [i_0]; omega, rfl⟩, fun qq => absurd rfl qq, fun _ => y7 (Or.inl v1), fun qq => absurd qq (by decide), fun _ qq => absurd (hv9 (Or.inl v1)) qq⟩
            · have := y2 qq
              rw [v1] at this
              exact absurd this (by decide)
            · rcases qq with qq | qq <;> exact absurd qq (by decide)
          | false =>
            obtain ⟨v1, v2, v3, v4⟩ := oN u hu hut hG
            rw [v1, v2, v4]
            exact ⟨y1, y2, y3, y4, y5, y6, y7, fun qq => hv9 (Or.inl qq), fun qq q2 => absurd (hv9 (Or.inr qq)) q2⟩
      · refine ⟨by rw [x9, qm']; omega, fun u hu qq => ?_, fun i hi => ?_, fun i j hi hj2 hqq => ?_⟩
        · obtain ⟨hut, hG, hu1⟩ := o1 u hu qq
          obtain ⟨i, hi1, hi2⟩ := l2 u hu hu1
          have him : i < m := by omega
          have hqi2 : q i = u := by
            have := (hql i him).2.2.1
            rw [hi2] at this
            exact ((nI_eq (by omega) (by have := (hql i him).1; omega)).mp this).symm
          have hge : m - m' ≤ i := by
            by_cases cc : m - m' ≤ i
            · exact cc
            · have := x12 i (by omega)
              rw [hqi2, hG] at this
              exact absurd this (by simp)
          refine ⟨i - (m - m'), by rw [x9, qm']; omega, ?_⟩
          rw [(x11 (i - (m - m')) (by omega)).2, show i - (m - m') + (m - m') = i by omega, hqi2]
        · rw [x9, qm'] at hi
          obtain ⟨v1, v2⟩ := x11 i (by omega)
          have hi2 : i + (m - m') < m := by omega
          obtain ⟨u1, u2, u3, u4⟩ := hql _ hi2
          have hG := x13 _ (by omega) hi2
          have hut := hqt _ hi2
          rw [s1 23 (by omega) (by omega) (by omega) (by omega) (by omega), v1, v2]
          exact ⟨rfl, _, u1, rfl, by rw [(oN _ u1 hut hG).1]; exact u4⟩
        · rw [x9, qm'] at hi hj2
          rw [(x11 i (by omega)).2, (x11 j (by omega)).2] at hqq
          have u1 := (hql (i + (m - m')) (by omega)).1
          have u2 := (hql (j + (m - m')) (by omega)).1
          have := hqi _ _ (by omega) (by omega) ((nI_eq (by omega) (by omega)).mp hqq)
          omega
      · rw [x9, qm', hln]
        intro hm0
        obtain ⟨v1, v2⟩ := x11 0 (by omega)
        rw [Nat.zero_add] at v2
        have hi2 : m - m' < m := by omega
        obtain ⟨u1, u2, u3, u4⟩ := hql _ hi2
        rw [v2, i_nI (by omega), Int.toNat_natCast, o9 _ (hqt _ hi2), (hlen _ u1 (Or.inl u4)).2.2.1]
        exact x15 (by omega)
      · rw [tgj 34 (by omega) (by omega), tgj 35 (by omega) (by omega)]
        rcases n11 with n11 | ⟨n1, n2, n3⟩
        · exact Or.inl n11
        · refine Or.inr ⟨n1, n2, fun u hu => ?_⟩
          refine ⟨fun e => ?_, fun e => ?_⟩
          · obtain ⟨r1, r2⟩ := oB u hu (Or.inl e)
            rcases r2 with r2 | r2
            · exact (n3 u hu r1).1 r2
            · exact (n3 u hu r1).2 r2
          · obtain ⟨r1, r2⟩ := oB u hu (Or.inr e)
            rcases r2 with r2 | r2
            · exact (n3 u hu r1).1 r2
            · exact (n3 u hu r1).2 r2
      · rw [a0 4 (by omega)]
        have hs := sum_gb (τ := τ) (τ' := τg) (G := G) (L := L) (t := t) hGt h2 ot.2 hLt.2.2.1 6 (fun u hu hut hG => by
          obtain ⟨v1, v2, -⟩ := oG u hu hut hG
          refine ⟨by rw [v1]; decide, v2, ?_⟩
          rw [o9 u hut, hln, (hlen u hu (Or.inl v1)).2.2.1]) (fun u hu hut hG => by
          obtain ⟨v1, -⟩ := oN u hu hut hG
          rw [v1, o9 u hut, hln]
          exact ⟨Iff.rfl, rfl⟩)
        rw [if_pos ht] at hs
        rw [e31, hv2] at x17
        exact ⟨x16, by omega⟩
      · refine ⟨fun u hu qq => ?_, fun u w hu hw huw qu qw => ?_⟩
        · obtain ⟨r1, r2⟩ := oB u hu qq
          rw [o9 u r1, a0 24 (by omega)]
          exact i14.1 u hu r2
        · obtain ⟨r1, r2⟩ := oB u hu qu
          obtain ⟨r3, r4⟩ := oB w hw qw
          rw [o9 u r1, o9 w r3]
          exact i14.2 u w hu hw huw r2 r4
