theorem sum_zero {τ : pt_St} : ∀ n : Nat, (∀ u, u < n → τ 8 u ≠ 2) → rl_sum τ n = 0
  | 0, _ => rfl
  | n + 1, h => by
    simp only [rl_sum]
    rw [sum_zero n (fun u hu => h u (by omega)), if_neg (h n (by omega))]
    omega
/-! ===== is any at work, is one doing a block again ===== -/
theorem any_lp : ∀ (d i n : Nat) (σ : pt_St), i + d = 6 → d < n → ∃ r, lp_X6_isAnyAtWork_2 kx_X6_isAnyAtWork_2 n σ (nI i) = some (r, σ) ∧ ((r = 0 ∧ ∀ u, i ≤ u → u < 6 → σ (9 + u) 1 ≠ 2) ∨ (r = 1 ∧ ∃ u, u < 6 ∧ σ (9 + u) 1 = 2)) := by
  intro d
  induction d with
  | zero =>
    intro i n σ hi hn
    obtain ⟨n, rfl⟩ : ∃ z, n = z + 1 := ⟨n - 1, by omega⟩
    have q : (nI i).toInt = (i : Int) := i_nI (by omega)
    refine ⟨0, ?_, Or.inl ⟨rfl, fun u h1 h2 => absurd h2 (by omega)⟩⟩
    rw [lp_X6_isAnyAtWork_2, if_pos (by rw [Int32.le_iff_toInt_le, i_6]; omega), kx_X6_isAnyAtWork_2]
  | succ d ih =>
    intro i n σ hi hn
    obtain ⟨n, rfl⟩ : ∃ z, n = z + 1 := ⟨n - 1, by omega⟩
    have q : (nI i).toInt = (i : Int) := i_nI (by omega)
    have qc : (nI i).toNatClampNeg = i := nI_clamp (by omega)
    by_cases c : σ (9 + i) 1 = 2
    · refine ⟨1, ?_, Or.inr ⟨rfl, i, by omega, c⟩⟩
      rw [lp_X6_isAnyAtWork_2, if_neg (by rw [Int32.le_iff_toInt_le, i_6]; omega), if_pos (nI_in (by omega) (by omega)), qc, if_pos c]
    · obtain ⟨r, w1, w2⟩ := ih (i + 1) n σ (by omega) (by omega)
      refine ⟨r, ?_, ?_⟩
      · rw [lp_X6_isAnyAtWork_2, if_neg (by rw [Int32.le_iff_toInt_le, i_6]; omega), if_pos (nI_in (by omega) (by omega)), qc, if_neg c, nI_1]
        exact w1
      · rcases w2 with ⟨r0, w2⟩ | w2
        · refine Or.inl ⟨r0, fun u h1 h2 => ?_⟩
          by_cases cu : u = i
          · rw [cu]; exact c
          · exact w2 u (by omega) h2
        · exact Or.inr w2
theorem has_ok {σ : pt_St} {b : Nat} (hb : b < 40) : f_X0_has σ (nI b) = if σ 25 b = 0 then some ((0 : Int32), σ) else some ((1 : Int32), σ) := by
  have q : (nI b).toInt = (b : Int) := i_nI (by omega)
  have qb : (nI b).toNatClampNeg = b := nI_clamp (by omega)
  rw [f_X0_has, if_neg (by rw [Int32.lt_iff_toInt_lt, i_0]; omega), if_neg (by rw [Int32.le_iff_toInt_le, i_40]; omega), if_pos (nI_in hb (by omega)), qb]
theorem again_lp {B : Nat → Nat} : ∀ (d i n : Nat) (σ : pt_St), i + d = 6 → d < n → (∀ u, u < 6 → σ (9 + u) 1 = 2 → B u < 40 ∧ σ (9 + u) 2 = nI (B u)) → ∃ r, lp_X6_isBlockDoneAgain_2 kx_X6_isBlockDoneAgain_2 n σ (nI i) = some (r, σ) ∧ ((r = 0 ∧ ∀ u, i ≤ u → u < 6 → σ (9 + u) 1 = 2 → σ 25 (B u) = 0) ∨ (r = 1 ∧ ∃ u, u < 6 ∧ σ (9 + u) 1 = 2 ∧ σ 25 (B u) ≠ 0)) := by
  intro d
  induction d with
  | zero =>
    intro i n σ hi hn hB
    obtain ⟨n, rfl⟩ : ∃ z, n = z + 1 := ⟨n - 1, by omega⟩
    have q : (nI i).toInt = (i : Int) := i_nI (by omega)
    refine ⟨0, ?_, Or.inl ⟨rfl, fun u h1 h2 => absurd h2 (by omega)⟩⟩
    rw [lp_X6_isBlockDoneAgain_2, if_pos (by rw [Int32.le_iff_toInt_le, i_6]; omega), kx_X6_isBlockDoneAgain_2]
  | succ d ih =>
    intro i n σ hi hn hB
    obtain ⟨n, rfl⟩ : ∃ z, n = z + 1 := ⟨n - 1, by omega⟩
    have q : (nI i).toInt = (i : Int) := i_nI (by omega)
    have qc : (nI i).toNatClampNeg = i := nI_clamp (by omega)
    obtain ⟨r, w1, w2⟩ := ih (i + 1) n σ (by omega) (by omega) hB
    have hgo : ∀ hh : (σ (9 + i) 1 = 2 → σ 25 (B i) = 0), lp_X6_isBlockDoneAgain_2 kx_X6_isBlockDoneAgain_2 (n + 1) σ (nI i) = lp_X6_isBlockDoneAgain_2 kx_X6_isBlockDoneAgain_2 n σ (nI (i + 1)) := fun hh => by
      rw [lp_X6_isBlockDoneAgain_2, if_neg (by rw [Int32.le_iff_toInt_le, i_6]; omega), if_pos (nI_in (by omega) (by omega)), qc]
      by_cases c : σ (9 + i) 1 = 2
      · obtain ⟨v1, v2⟩ := hB i (by omega) c
        rw [if_pos c, v2, has_ok v1, if_pos (hh c), pt_b2e, if_pos rfl, nI_1]
      · rw [if_neg c, nI_1]
    by_cases c2 : σ (9 + i) 1 = 2 → σ 25 (B i) = 0
    · refine ⟨r, by rw [hgo c2]; exact w1, ?_⟩
      rcases w2 with ⟨r0, w2⟩ | w2
      · refine Or.inl ⟨r0, fun u h1 h2 h3 => ?_⟩
        by_cases cu : u = i
        · subst cu; exact c2 h3
        · exact w2 u (by omega) h2 h3
      · exact Or.inr w2
    · have c3 : σ (9 + i) 1 = 2 := Classical.byContradiction fun q => c2 (fun q2 => absurd q2 q)
      have c4 : σ 25 (B i) ≠ 0 := fun q => c2 (fun _ => q)
      obtain ⟨v1, v2⟩ := hB i (by omega) c3
      refine ⟨1, ?_, Or.inr ⟨rfl, i, by omega, c3, c4⟩⟩
      rw [lp_X6_isBlockDoneAgain_2, if_neg (by rw [Int32.le_iff_toInt_le, i_6]; omega), if_pos (nI_in (by omega) (by omega)), qc, if_pos c3, v2, has_ok v1, if_neg c4, pt_b2e, if_neg (by decide)]
theorem some_lp {a1 a2 : Int32} {th : Nat} (hth : th ≤ 6) {P : Nat → Prop} {τ : pt_St} (h15 : τ 0 15 = nI th) (hP1 : ∀ n u, u < th → P u → lp_X10_isSome_5 (kx_X10_isSome_5 a1 a2) a1 a2 (n + 1) τ 0 (nI u) = lp_X10_isSome_5 (kx_X10_isSome_5 a1 a2) a1 a2 n τ 1 (nI (u + 1))) (hP0 : ∀ n u, u < th → ¬ P u → lp_X10_isSome_5 (kx_X10_isSome_5 a1 a2) a1 a2 (n + 1) τ 0 (nI u) = lp_X10_isSome_5 (kx_X10_isSome_5 a1 a2) a1 a2 n τ 0 (nI (u + 1))) : ∀ (d i n : Nat) (x3 : Int32), i + d = th → d < n → (x3 = 0 ∨ x3 = 1) → ∃ r, lp_X10_isSome_5 (kx_X10_isSome_5 a1 a2) a1 a2 n τ x3 (nI i) = some (r, τ) ∧ ((r = 0 ∧ x3 = 0 ∧ ∀ u, i ≤ u → u < th → ¬ P u) ∨ (r = 1 ∧ (x3 = 1 ∨ ∃ u, u < th ∧ P u))) := by
  intro d
  induction d with
  | zero =>
    intro i n x3 hi hn hx
    obtain ⟨n, rfl⟩ : ∃ z, n = z + 1 := ⟨n - 1, by omega⟩
    have q : (nI i).toInt = (i : Int) := i_nI (by omega)
    have qn : (nI th).toInt = (th : Int) := i_nI (by omega)
    refine ⟨x3, ?_, ?_⟩
    · rw [lp_X10_isSome_5, h15, if_pos (by rw [Int32.le_iff_toInt_le]; omega), kx_X10_isSome_5, if_pos hx]
    · rcases hx with hx | hx
      · exact Or.inl ⟨hx, hx, fun u h1 h2 => absurd h2 (by omega)⟩
      · exact Or.inr ⟨hx, Or.inl hx⟩
  | succ d ih =>
    intro i n x3 hi hn hx
    obtain ⟨n, rfl⟩ : ∃ z, n = z + 1 := ⟨n - 1, by omega⟩
    have q : (nI i).toInt = (i : Int) := i_nI (by omega)
    have qn : (nI th).toInt = (th : Int) := i_nI (by omega)
    rcases hx with hx | hx
    · subst hx
      by_cases c : P i
      · obtain ⟨r, w1, w2⟩ := ih (i + 1) n 1 (by omega) (by omega) (Or.inr rfl)
        refine ⟨r, by rw [hP1 n i (by omega) c]; exact w1, ?_⟩
        rcases w2 with ⟨-, w2, -⟩ | ⟨w2, -⟩
        · exact absurd w2 (by decide)
        · exact Or.inr ⟨w2, Or.inr ⟨i, by omega, c⟩⟩
      · obtain ⟨r, w1, w2⟩ := ih (i + 1) n 0 (by omega) (by omega) (Or.inl rfl)
        refine ⟨r, by rw [hP0 n i (by omega) c]; exact w1, ?_⟩
        rcases w2 with ⟨w2, -, w3⟩ | ⟨w2, w3⟩
        · refine Or.inl ⟨w2, rfl, fun u h1 h2 => ?_⟩
          by_cases cu : u = i
          · rw [cu]; exact c
          · exact w3 u (by omega) h2
        · exact Or.inr ⟨w2, w3⟩
    · subst hx
      obtain ⟨r, w1, w2⟩ := ih (i + 1) n 1 (by omega) (by omega) (Or.inr rfl)
      refine ⟨r, ?_, ?_⟩
      · rw [lp_X10_isSome_5, h15, if_neg (by rw [Int32.le_iff_toInt_le]; omega), if_neg (by decide), nI_1]
        exact w1
      · rcases w2 with ⟨-, w2, -⟩ | ⟨w2, -⟩
        · exact absurd w2 (by decide)
        · exact Or.inr ⟨w2, Or.inl rfl⟩
theorem any_R {τ : pt_St} {th : Nat} (hth : th ≤ 6) (h15 : τ 0 15 = nI th) (hz : ∀ u, u < 6 → th ≤ u → τ 8 u = 0) : ∃ r, f_X10_isSome τ 2 0 = some (r, τ) ∧ ((r = 0 ∧ ∀ u, u < 6 → τ 8 u ≠ 2) ∨ (r = 1 ∧ ∃ u, u < 6 ∧ τ 8 u = 2)) := by
  have qn : (nI th).toInt = (th : Int) := i_nI (by omega)
  obtain ⟨r, w1, w2⟩ := some_lp (a1 := 2) (a2 := 0) hth (P := fun u => τ 8 u = 2) h15 (fun n u hu hP => by
    have q : (nI u).toInt = (u : Int) := i_nI (by omega)
    rw [lp_X10_isSome_5, h15, if_neg (by rw [Int32.le_iff_toInt_le]; omega), if_pos rfl, if_pos rfl, if_pos (nI_in (by omega) (by omega)), nI_clamp (by omega), if_pos hP, nI_1]) (fun n u hu hP => by
    have q : (nI u).toInt = (u : Int) := i_nI (by omega)
    rw [lp_X10_isSome_5, h15, if_neg (by rw [Int32.le_iff_toInt_le]; omega), if_pos rfl, if_pos rfl, if_pos (nI_in (by omega) (by omega)), nI_clamp (by omega), if_neg hP, nI_1]) th 0 pt_F 0 (by omega) (by unfold pt_F; omega) (Or.inl rfl)
  refine ⟨r, w1, ?_⟩
  rcases w2 with ⟨r0, -, w2⟩ | ⟨r1, w2⟩
  · refine Or.inl ⟨r0, fun u hu q => ?_⟩
    by_cases c : u < th
    · exact w2 u (by omega) c q
    · rw [hz u hu (by omega)] at q; exact absurd q (by decide)
  · rcases w2 with w2 | ⟨u, u1, u2⟩
    · exact absurd w2 (by decide)
    · exact Or.inr ⟨r1, u, by omega, u2⟩
theorem again_R {τ : pt_St} {th : Nat} {B : Nat → Nat} (hth : th ≤ 6) (h15 : τ 0 15 = nI th) (hz : ∀ u, u < 6 → th ≤ u → τ 8 u = 0) (hB : ∀ u, u < 6 → (τ 8 u = 1 ∨ τ 8 u = 2) → B u < 40 ∧ τ 9 u = nI (B u)) : ∃ r, f_X10_isSome τ 2 1 = some (r, τ) ∧ ((r = 0 ∧ ∀ u, u < 6 → (τ 8 u = 1 ∨ τ 8 u = 2) → τ 14 (B u) = 0) ∨ (r = 1 ∧ ∃ u, u < 6 ∧ (τ 8 u = 1 ∨ τ 8 u = 2) ∧ τ 14 (B u) ≠ 0)) := by
  have qn : (nI th).toInt = (th : Int) := i_nI (by omega)
  have n10 : ¬ (1 : Int32) = 0 := by decide
  obtain ⟨r, w1, w2⟩ := some_lp (a1 := 2) (a2 := 1) hth (P := fun u => (τ 8 u = 1 ∨ τ 8 u = 2) ∧ τ 14 (B u) ≠ 0) h15 (fun n u hu hP => by
    have q : (nI u).toInt = (u : Int) := i_nI (by omega)
    obtain ⟨hP1, hP2⟩ := hP
    obtain ⟨v1, v2⟩ := hB u (by omega) hP1
    rw [lp_X10_isSome_5, h15, if_neg (by rw [Int32.le_iff_toInt_le]; omega), if_pos rfl, if_neg n10, if_pos (nI_in (by omega) (by omega)), nI_clamp (by omega), v2, if_pos (nI_in v1 (by omega)), nI_clamp (by omega), if_neg hP2, nI_1]
    by_cases c : τ 8 u = 1
    · rw [if_pos c]
    · rw [if_neg c, if_pos (by rcases hP1 with q | q; exact absurd q c; exact q)]) (fun n u hu hP => by
    have q : (nI u).toInt = (u : Int) := i_nI (by omega)
    rw [lp_X10_isSome_5, h15, if_neg (by rw [Int32.le_iff_toInt_le]; omega), if_pos rfl, if_neg n10, if_pos (nI_in (by omega) (by omega)), nI_clamp (show u < 2147483648 by omega)]
    by_cases c : τ 8 u = 1 ∨ τ 8 u = 2
    · obtain ⟨v1, v2⟩ := hB u (by omega) c
      have hz0 : τ 14 (B u) = 0 := Classical.byContradiction fun q => hP ⟨c, q⟩
      rw [v2, if_pos (nI_in v1 (by omega)), nI_clamp (show B u < 2147483648 by omega), if_pos hz0, nI_1]
      by_cases c1 : τ 8 u = 1
      · rw [if_pos c1]
      · rw [if_neg c1, if_pos (by rcases c with q | q; exact absurd q c1; exact q)]
    · rw [if_neg (fun q => c (Or.inl q)), if_neg (fun q => c (Or.inr q)), nI_1]) th 0 pt_F 0 (by omega) (by unfold pt_F; omega) (Or.inl rfl)
  refine ⟨r, w1, ?_⟩
  rcases w2 with ⟨r0, -, w2⟩ | ⟨r1, w2⟩
  · refine Or.inl ⟨r0, fun u hu q => ?_⟩
    by_cases c : u < th
    · exact Classical.byContradiction fun q2 => w2 u (by omega) c ⟨q, q2⟩
    · rw [hz u hu (by omega)] at q; rcases q with q | q <;> exact absurd q (by decide)
  · rcases w2 with w2 | ⟨u, u1, u2, u3⟩
    · exact absurd w2 (by decide)
    · exact Or.inr ⟨r1, u, by omega, u2, u3⟩
/-! ===== the list of those done again ===== -/
theorem tf_lp {A : Nat} (hA : A ≤ 40) {x1 : Int32} {k : pt_St → Int32 → Int32 → Option (Int32 × pt_St)} : ∀ (d i n : Nat) (σ : pt_St), i + d = A → 1 ≤ i → d < n → σ 8 2 = nI A → ∃ σ', lp_X0_takeFirst_18 k n σ x1 (nI i) = k σ' x1 (nI A) ∧ (∀ c, c ≠ 26 → σ' c = σ c) ∧ (∀ j, σ' 26 j = if i ≤ j + 1 ∧ j + 1 < A then σ 26 (j + 1) else σ 26 j) := by
  intro d
  induction d with
  | zero =>
    intro i n σ hi h1 hn h
    obtain ⟨n, rfl⟩ : ∃ z, n = z + 1 := ⟨n - 1, by omega⟩
    have q : (nI i).toInt = (i : Int) := i_nI (by omega)
    have q2 : (nI A).toInt = (A : Int) := i_nI (by omega)
    refine ⟨σ, ?_, fun _ _ => rfl, fun j => by rw [if_neg (by omega)]⟩
    rw [lp_X0_takeFirst_18, h, if_pos (by rw [Int32.le_iff_toInt_le]; omega), show i = A by omega]
  | succ d ih =>
    intro i n σ hi h1 hn h
    obtain ⟨n, rfl⟩ : ∃ z, n = z + 1 := ⟨n - 1, by omega⟩
    have q : (nI i).toInt = (i : Int) := i_nI (by omega)
    have q2 : (nI A).toInt = (A : Int) := i_nI (by omega)
    have q3 : (nI i).toNatClampNeg = i := nI_clamp (by omega)
    have q4 : (nI (i - 1)).toNatClampNeg = i - 1 := nI_clamp (by omega)
    have e1 : nI i - 1 = nI (i - 1) := pk_sub h1
    obtain ⟨σ', v1, v2, v3⟩ := ih (i + 1) n (pt_put σ 26 (i - 1) (σ 26 i)) (by omega) (by omega) (by omega) (by rw [pt_ne (by omega)]; exact h)
    refine ⟨σ', ?_, fun c hc => by rw [v2 c hc, pt_ne hc], fun j => ?_⟩
    · rw [lp_X0_takeFirst_18, h, if_neg (by rw [Int32.le_iff_toInt_le]; omega), if_neg (by rw [Int32.le_iff_toInt_le, i_40]; omega), if_pos (nI_in (by omega) (by omega)), e1, if_pos (nI_in (by omega) (by omega)), q3, q4, pt_doe, nI_1]
      exact v1
    · rw [v3 j]
      by_cases c : j + 1 = i
      · rw [if_neg (by omega), if_pos (by omega), show j = i - 1 by omega, pt_eq, show i - 1 + 1 = i by omega]
      · by_cases c2 : i ≤ j + 1 ∧ j + 1 < A
        · rw [if_pos (by omega), if_pos c2, pt_nj (by omega)]
        · rw [if_neg (by omega), if_neg c2]
          by_cases c3 : j = i - 1
          · omega
          · rw [pt_nj c3]
theorem fr_lp {M : Nat} (hM : M ≤ 39) {a1 x2 : Int32} {k : pt_St → Int32 → Int32 → Option (Int32 × pt_St)} : ∀ (d i n : Nat) (τ : pt_St), i + d = M → d < n → τ 0 27 = nI M → ∃ τ', lp_X10_free_82 k a1 n τ x2 (nI i) = k τ' x2 (nI M) ∧ (∀ c, c ≠ 15 → τ' c = τ c) ∧ (∀ j, τ' 15 j = if i ≤ j ∧ j < M then τ 15 (j + 1) else τ 15 j) := by
  intro d
  induction d with
  | zero =>
    intro i n σ hi hn h
    obtain ⟨n, rfl⟩ : ∃ z, n = z + 1 := ⟨n - 1, by omega⟩
    have q : (nI i).toInt = (i : Int) := i_nI (by omega)
    have q2 : (nI M).toInt = (M : Int) := i_nI (by omega)
    refine ⟨σ, ?_, fun _ _ => rfl, fun j => by rw [if_neg (by omega)]⟩
    rw [lp_X10_free_82, h, if_pos (by rw [Int32.le_iff_toInt_le]; omega), show i = M by omega]
  | succ d ih =>
    intro i n σ hi hn h
    obtain ⟨n, rfl⟩ : ∃ z, n = z + 1 := ⟨n - 1, by omega⟩
    have q : (nI i).toInt = (i : Int) := i_nI (by omega)
    have q2 : (nI M).toInt = (M : Int) := i_nI (by omega)
    have q3 : (nI i).toNatClampNeg = i := nI_clamp (by omega)
    have q4 : (nI (i + 1)).toNatClampNeg = i + 1 := nI_clamp (by omega)
    obtain ⟨σ', v1, v2, v3⟩ := ih (i + 1) n (pt_put σ 15 i (σ 15 (i + 1))) (by omega) (by omega) (by rw [pt_ne (by omega)]; exact h)
    refine ⟨σ', ?_, fun c hc => by rw [v2 c hc, pt_ne hc], fun j => ?_⟩
    · rw [lp_X10_free_82, h, if_neg (by rw [Int32.le_iff_toInt_le]; omega), nI_1, if_pos (nI_in (by omega) (by omega)), if_pos (nI_in (by omega) (by omega)), q3, q4, pt_doe]
      exact v1
    · rw [v3 j]
      by_cases c : j = i
      · rw [if_neg (by omega), if_pos (by omega), c, pt_eq]
      · by_cases c2 : i ≤ j ∧ j < M
        · rw [if_pos (by omega), if_pos c2, pt_nj (by omega)]
        · rw [if_neg (by omega), if_neg c2, pt_nj c]
