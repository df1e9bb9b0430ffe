/-! ===== the line ===== -/
theorem drop_lp {m : Nat} (hm : m ≤ 6) {k : pt_St → Int32 → Option pt_St} : ∀ (d i n : Nat) (σ : pt_St), i + d = m → 1 ≤ i → d < n → σ 6 1 = nI m → ∃ σ', lp_X1_dropFirst_2 k n σ (nI i) = k σ' (nI m) ∧ (∀ c, c ≠ 23 → σ' c = σ c) ∧ (∀ j, σ' 23 j = if i ≤ j + 1 ∧ j + 1 < m then σ 23 (j + 1) else σ 23 j) := by
  intro d
  induction d with
  | zero =>
    intro i n σ hi h1 hn h
    obtain ⟨n, rfl⟩ : ∃ z, n = z + 1 := ⟨n - 1, by omega⟩
    have q : (nI i).toInt = (i : Int) := i_nI (by omega)
    have q2 : (nI m).toInt = (m : Int) := i_nI (by omega)
    refine ⟨σ, ?_, fun _ _ => rfl, fun j => by rw [if_neg (by omega)]⟩
    rw [lp_X1_dropFirst_2, h, if_pos (by rw [Int32.le_iff_toInt_le]; omega), show i = m by omega]
  | succ d ih =>
    intro i n σ hi h1 hn h
    obtain ⟨n, rfl⟩ : ∃ z, n = z + 1 := ⟨n - 1, by omega⟩
    have q : (nI i).toInt = (i : Int) := i_nI (by omega)
    have q2 : (nI m).toInt = (m : Int) := i_nI (by omega)
    have q3 : (nI i).toNatClampNeg = i := nI_clamp (by omega)
    have q4 : (nI (i - 1)).toNatClampNeg = i - 1 := nI_clamp (by omega)
    have e1 : nI i - 1 = nI (i - 1) := pk_sub h1
    obtain ⟨σ', v1, v2, v3⟩ := ih (i + 1) n (pt_put σ 23 (i - 1) (σ 23 i)) (by omega) (by omega) (by omega) (by rw [pt_ne (by omega)]; exact h)
    refine ⟨σ', ?_, fun c hc => by rw [v2 c hc, pt_ne hc], fun j => ?_⟩
    · rw [lp_X1_dropFirst_2, h, if_neg (by rw [Int32.le_iff_toInt_le]; omega), if_neg (by rw [Int32.le_iff_toInt_le, i_6]; omega), if_pos (nI_in (by omega) (by omega)), e1, if_pos (nI_in (by omega) (by omega)), q3, q4, pt_doe, nI_1]
      exact v1
    · rw [v3 j]
      by_cases c : j + 1 = i
      · rw [if_neg (by omega), if_pos (by omega), show j = i - 1 by omega, pt_eq, show i - 1 + 1 = i by omega]
      · by_cases c2 : i ≤ j + 1 ∧ j + 1 < m
        · rw [if_pos (by omega), if_pos c2, pt_nj (by omega)]
        · rw [if_neg (by omega), if_neg c2]
          by_cases c3 : j = i - 1
          · omega
          · rw [pt_nj c3]
theorem drop_ok {σ : pt_St} {m : Nat} (hm : m ≤ 6) (h1 : 1 ≤ m) (h : σ 6 1 = nI m) : ∃ σ', f_X1_dropFirst σ = some σ' ∧ (∀ c, c ≠ 6 → c ≠ 23 → σ' c = σ c) ∧ (∀ j, j ≠ 1 → σ' 6 j = σ 6 j) ∧ σ' 6 1 = nI (m - 1) ∧ (∀ j, j + 1 < m → σ' 23 j = σ 23 (j + 1)) := by
  obtain ⟨σ1, v1, v2, v3⟩ := drop_lp hm (k := kx_X1_dropFirst_2) (m - 1) 1 pt_F σ (by omega) (by omega) (by unfold pt_F; omega) h
  have e1 : nI m - 1 = nI (m - 1) := pk_sub h1
  refine ⟨pt_put σ1 6 1 (nI (m - 1)), ?_, fun c c6 c23 => by rw [pt_ne c6, v2 c c23], fun j hj => by rw [pt_nj hj, v2 6 (by omega)], pt_eq, fun j hj => by rw [pt_ne (by omega), v3 j, if_pos (by omega)]⟩
  have v1' : lp_X1_dropFirst_2 kx_X1_dropFirst_2 pt_F σ 1 = _ := v1
  rw [f_X1_dropFirst, v1', kx_X1_dropFirst_2, v2 6 (by omega), h, e1, pt_doe]
theorem leave_lp {m : Nat} (hm : m ≤ 6) {k : pt_St → Int32 → Int32 → Option pt_St} {a1 : Int32} : ∀ (d i n : Nat) (τ : pt_St), i + d = m → 1 ≤ i → d < n → τ 0 33 = nI m → (∀ j, i ≤ j → j < m → τ 17 j ≠ a1) → ∃ τ', lp_X10_leaves_4 k a1 n τ (nI (i - 1)) (nI i) = k τ' (nI (m - 1)) (nI m) ∧ (∀ c, c ≠ 17 → τ' c = τ c) ∧ (∀ j, τ' 17 j = if i ≤ j + 1 ∧ j + 1 < m then τ 17 (j + 1) else τ 17 j) := by
  intro d
  induction d with
  | zero =>
    intro i n σ hi h1 hn h hne
    obtain ⟨n, rfl⟩ : ∃ z, n = z + 1 := ⟨n - 1, by omega⟩
    have q : (nI i).toInt = (i : Int) := i_nI (by omega)
    have q2 : (nI m).toInt = (m : Int) := i_nI (by omega)
    refine ⟨σ, ?_, fun _ _ => rfl, fun j => by rw [if_neg (by omega)]⟩
    rw [lp_X10_leaves_4, h, if_pos (by rw [Int32.le_iff_toInt_le]; omega), show i = m by omega]
  | succ d ih =>
    intro i n σ hi h1 hn h hne
    obtain ⟨n, rfl⟩ : ∃ z, n = z + 1 := ⟨n - 1, by omega⟩
    have q : (nI i).toInt = (i : Int) := i_nI (by omega)
    have q2 : (nI m).toInt = (m : Int) := i_nI (by omega)
    have q3 : (nI i).toNatClampNeg = i := nI_clamp (by omega)
    have q4 : (nI (i - 1)).toNatClampNeg = i - 1 := nI_clamp (by omega)
    obtain ⟨σ', v1, v2, v3⟩ := ih (i + 1) n (pt_put σ 17 (i - 1) (σ 17 i)) (by omega) (by omega) (by omega) (by rw [pt_ne (by omega)]; exact h) (fun j hj1 hj2 => by rw [pt_nj (by omega)]; exact hne j (by omega) hj2)
    refine ⟨σ', ?_, fun c hc => by rw [v2 c hc, pt_ne hc], fun j => ?_⟩
    · rw [lp_X10_leaves_4, h, if_neg (by rw [Int32.le_iff_toInt_le]; omega), if_pos (nI_in (by omega) (by omega)), q3, if_neg (hne i (by omega) (by omega)), if_pos (nI_in (by omega) (by omega)), q4, pt_doe, nI_1, nI_1, show i - 1 + 1 = i by omega]
      rw [show i + 1 - 1 = i by omega] at v1
      exact v1
    · rw [v3 j]
      by_cases c : j + 1 = i
      · rw [if_neg (by omega), if_pos (by omega), show j = i - 1 by omega, pt_eq, show i - 1 + 1 = i by omega]
      · by_cases c2 : i ≤ j + 1 ∧ j + 1 < m
        · rw [if_pos (by omega), if_pos c2, pt_nj (by omega)]
        · rw [if_neg (by omega), if_neg c2]
          by_cases c3 : j = i - 1
          · omega
          · rw [pt_nj c3]
theorem leave_ok {τ : pt_St} {m : Nat} (hm : m ≤ 6) (h1 : 1 ≤ m) (h : τ 0 33 = nI m) (hd : ∀ j, 1 ≤ j → j < m → τ 17 j ≠ τ 17 0) : ∃ τ', f_X10_leaves τ (τ 17 0) = some τ' ∧ (∀ c, c ≠ 0 → c ≠ 17 → τ' c = τ c) ∧ (∀ j, j ≠ 33 → τ' 0 j = τ 0 j) ∧ τ' 0 33 = nI (m - 1) ∧ (∀ j, j + 1 < m → τ' 17 j = τ 17 (j + 1)) := by
  obtain ⟨τ1, v1, v2, v3⟩ := leave_lp hm (k := kx_X10_leaves_4 (τ 17 0)) (a1 := τ 17 0) (m - 1) 1 999 τ (by omega) (by omega) (by omega) h hd
  have q : (nI m).toInt = (m : Int) := i_nI (by omega)
  refine ⟨pt_put τ1 0 33 (nI (m - 1)), ?_, fun c c0 c17 => by rw [pt_ne c0, v2 c c17], fun j hj => by rw [pt_nj hj, v2 0 (by omega)], pt_eq, fun j hj => by rw [pt_ne (by omega), v3 j, if_pos (by omega)]⟩
  have e0 : (0 : Int32).toNatClampNeg = 0 := by decide
  have e1 : (0 : Int32) + 1 = nI 1 := by decide
  have e2 : (0 : Int32) = nI (1 - 1) := by decide
  rw [f_X10_leaves, show pt_F = 999 + 1 from rfl, lp_X10_leaves_4, h, if_neg (by rw [Int32.le_iff_toInt_le, i_0]; omega), if_pos (by decide), if_pos (show τ 17 (0 : Int32).toNatClampNeg = τ 17 0 by rw [e0]), e1, e2, v1, kx_X10_leaves_4, pt_doe]
