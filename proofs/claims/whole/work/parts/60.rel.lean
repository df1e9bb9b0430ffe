/-! ===== numbers ===== -/
theorem i_m4 : (-4 : Int32).toInt = -4 := by decide
theorem i_m3 : (-3 : Int32).toInt = -3 := by decide
theorem i_m2 : (-2 : Int32).toInt = -2 := by decide
theorem i_m1 : (-1 : Int32).toInt = -1 := by decide
theorem i_0 : (0 : Int32).toInt = 0 := by decide
theorem i_1 : (1 : Int32).toInt = 1 := by decide
theorem i_2 : (2 : Int32).toInt = 2 := by decide
theorem i_3 : (3 : Int32).toInt = 3 := by decide
theorem i_4 : (4 : Int32).toInt = 4 := by decide
theorem i_5 : (5 : Int32).toInt = 5 := by decide
theorem i_6 : (6 : Int32).toInt = 6 := by decide
theorem i_8 : (8 : Int32).toInt = 8 := by decide
theorem i_10 : (10 : Int32).toInt = 10 := by decide
theorem i_16 : (16 : Int32).toInt = 16 := by decide
theorem i_31 : (31 : Int32).toInt = 31 := by decide
theorem i_32 : (32 : Int32).toInt = 32 := by decide
theorem i_39 : (39 : Int32).toInt = 39 := by decide
theorem i_40 : (40 : Int32).toInt = 40 := by decide
theorem i_64 : (64 : Int32).toInt = 64 := by decide
theorem i_160 : (160 : Int32).toInt = 160 := by decide
theorem i_200 : (200 : Int32).toInt = 200 := by decide
theorem i_240 : (240 : Int32).toInt = 240 := by decide
theorem i_255 : (255 : Int32).toInt = 255 := by decide
theorem i_400 : (400 : Int32).toInt = 400 := by decide
theorem i_cl (x : Int32) : x.toNatClampNeg = x.toInt.toNat := rfl
theorem i_eq {x y : Int32} : x = y ↔ x.toInt = y.toInt := Int32.toInt_inj.symm
theorem i_add {x y : Int32} (h : -2147483648 ≤ x.toInt + y.toInt ∧ x.toInt + y.toInt < 2147483648) : (x + y).toInt = x.toInt + y.toInt := by
  rw [Int32.toInt_add, Int.bmod_def]; omega
theorem i_sub {x y : Int32} (h : -2147483648 ≤ x.toInt - y.toInt ∧ x.toInt - y.toInt < 2147483648) : (x - y).toInt = x.toInt - y.toInt := by
  rw [Int32.toInt_sub, Int.bmod_def]; omega
theorem i_mul {x y : Int32} (h : -2147483648 ≤ x.toInt * y.toInt ∧ x.toInt * y.toInt < 2147483648) : (x * y).toInt = x.toInt * y.toInt := by
  rw [Int32.toInt_mul, Int.bmod_def]; omega
theorem i_rng (x : Int32) : -2147483648 ≤ x.toInt ∧ x.toInt < 2147483648 := ⟨Int32.le_toInt x, Int32.toInt_lt x⟩
theorem i_nI {n : Nat} (h : n < 2147483648) : (nI n).toInt = (n : Int) := nI_toInt h
theorem i_of {x : Int32} (h : 0 ≤ x.toInt) : x = nI x.toInt.toNat := by
  rw [i_eq, i_nI (by have := i_rng x; omega)]; omega
theorem i_pred (x : Int32) (h : 0 ≤ x.toInt) : (x - 1).toInt = x.toInt - 1 := by
  have := i_rng x
  rw [i_sub (by rw [i_1]; omega), i_1]
theorem i_nar0 : vp_nar .boolean 0 = 0 := by decide
theorem i_nar1 : vp_nar .boolean 1 = 1 := by decide
theorem pt_pk (σ : pt_St) (k j : Nat) (v : Int32) (k' j' : Nat) : pt_put σ k j v k' j' = if k' = k then (if j' = j then v else σ k j') else σ k' j' := by
  unfold pt_put upd
  by_cases h : k' = k
  · subst h; simp
  · simp [h]
theorem pt_row (σ : pt_St) (k j : Nat) (v : Int32) (k' : Nat) : pt_put σ k j v k' = if k' = k then upd (σ k) j v else σ k' := rfl
theorem upd_at (f : Nat → Int32) (k : Nat) (x : Int32) (j : Nat) : upd f k x j = if j = k then x else f j := rfl
/-! ===== the relation between a state of the class (σ) and one of the reference (τ) ===== -/
/-- how many blocks: of a text of a size, cut -/
def rl_many (τ : pt_St) : Int := ((τ 0 1).toInt + (τ 0 2).toInt - 1) / (τ 0 2).toInt
/-- the length of a block -/
def rl_len (τ : pt_St) (b : Int) : Int := if (τ 0 2).toInt ≤ (τ 0 1).toInt - b * (τ 0 2).toInt then (τ 0 2).toInt else (τ 0 1).toInt - b * (τ 0 2).toInt
/-- text, settings, plants, flags: the same on both sides -/
def rl_A (σ τ : pt_St) : Prop :=
  σ 1 1 = τ 0 1 ∧ σ 15 = τ 1 ∧ σ 2 0 = τ 0 2 ∧ σ 2 1 = τ 0 3 ∧ σ 2 2 = τ 0 4 ∧ σ 2 3 = τ 0 5 ∧ σ 16 = τ 3 ∧ σ 17 = τ 2 ∧ σ 18 = τ 4 ∧ σ 0 5 = τ 0 14 ∧ σ 4 8 = τ 0 9
def rl_B (τ : pt_St) : Prop :=
  0 ≤ (τ 0 1).toInt ∧ (τ 0 1).toInt ≤ 160 ∧ 4 ≤ (τ 0 2).toInt ∧ (τ 0 2).toInt ≤ 32 ∧ 0 ≤ (τ 0 3).toInt ∧ (τ 0 3).toInt ≤ 64 ∧ 32 ≤ (τ 0 4).toInt ∧ (τ 0 4).toInt ≤ 200 ∧ 1 ≤ (τ 0 5).toInt ∧ (τ 0 5).toInt ≤ 8 ∧
  (∀ b, 0 ≤ (τ 2 b).toInt) ∧ (τ 0 14 = 0 ∨ τ 0 14 = 1) ∧ (τ 0 9 = 0 ∨ τ 0 9 = 1) ∧ (τ 0 14 = 1 → τ 0 9 = 1)
/-- the stream: the same on both sides, begun or not -/
def rl_E (σ τ : pt_St) : Prop :=
  σ 5 6 = τ 0 15 ∧ σ 5 7 = τ 0 23 ∧ σ 5 8 = τ 0 24 ∧ σ 5 9 = τ 0 34 ∧ σ 5 10 = τ 0 35 ∧ σ 5 11 = τ 0 36 ∧ σ 5 12 = τ 0 37 ∧ σ 6 1 = τ 0 33 ∧ σ 6 2 = τ 0 31 ∧ σ 7 1 = τ 0 29 ∧ σ 7 3 = τ 0 30 ∧ σ 8 2 = τ 0 27 ∧
  σ 24 = τ 16 ∧ σ 25 = τ 14 ∧ σ 26 = τ 15 ∧ σ 20 = τ 6 ∧ σ 21 = τ 7 ∧
  (∀ t, t < 6 → σ (9 + t) 0 = nI t ∧ σ (9 + t) 1 = τ 8 t ∧ σ (9 + t) 2 = τ 9 t ∧ σ (9 + t) 5 = τ 11 t ∧ σ (9 + t) 6 = τ 12 t ∧ σ (9 + t) 7 = τ 13 t)
/-- the packs, when they are made -/
def rl_P (σ τ : pt_St) : Prop :=
  σ 4 5 = τ 0 10 ∧ 0 ≤ (τ 0 10).toInt ∧ (τ 0 10).toInt ≤ 240 ∧ (∀ i : Nat, (i : Int) < (τ 0 10).toInt → σ 19 i = τ 5 i) ∧ (σ 4 6).toInt = rl_many τ ∧
  (∀ b : Nat, (b : Int) < rl_many τ → 1 ≤ (τ 7 b).toInt ∧ 0 ≤ (τ 6 b).toInt ∧ (τ 6 b).toInt ≤ (τ 0 10).toInt)
/-- how many of the first n places are not 0 -/
def rl_cnt (f : Nat → Int32) : Nat → Int
  | 0 => 0
  | n + 1 => rl_cnt f n + (if f n = 0 then 0 else 1)
/-- the cells that the first n threads at work hold -/
def rl_sum (τ : pt_St) : Nat → Int
  | 0 => 0
  | n + 1 => rl_sum τ n + (if τ 8 n = 2 then rl_len τ (τ 9 n).toInt else 0)
/-- a thread, when the stream has begun -/
def rl_T (σ τ : pt_St) (t : Nat) : Prop :=
  (0 ≤ (τ 8 t).toInt ∧ (τ 8 t).toInt ≤ 4) ∧ ((τ 0 15).toInt ≤ t → τ 8 t = 0) ∧ ((τ 8 t = 0 ∨ τ 8 t = 4) → τ 9 t = -1) ∧ ((τ 8 t = 1 ∨ τ 8 t = 2 ∨ τ 8 t = 3) → 0 ≤ (τ 9 t).toInt ∧ (τ 9 t).toInt < (τ 0 16).toInt) ∧
  (τ 8 t = 2 → 0 ≤ (τ 10 t).toInt ∧ (τ 10 t).toInt < (τ 7 (τ 9 t).toInt.toNat).toInt ∧ σ (9 + t) 3 = τ 10 t) ∧ (τ 8 t ≠ 2 → σ (9 + t) 3 = -1) ∧ ((τ 8 t = 1 ∨ τ 8 t = 2) → (σ (9 + t) 4).toInt = rl_len τ (τ 9 t).toInt) ∧
  (τ 8 t = 1 → τ 14 (τ 9 t).toInt.toNat = 0) ∧ (τ 8 t = 2 → τ 14 (τ 9 t).toInt.toNat ≠ 0 → ∀ u, u < 6 → u ≠ t → τ 8 u ≠ 1 ∧ τ 8 u ≠ 2)
/-- the line of those waiting -/
def rl_L (σ τ : pt_St) : Prop :=
  0 ≤ (τ 0 33).toInt ∧ (∀ t, t < 6 → τ 8 t = 1 → ∃ i : Nat, (i : Int) < (τ 0 33).toInt ∧ τ 17 i = nI t) ∧ (∀ i : Nat, (i : Int) < (τ 0 33).toInt → σ 23 i = τ 17 i ∧ ∃ t, t < 6 ∧ τ 17 i = nI t ∧ τ 8 t = 1) ∧ (∀ i j : Nat, (i : Int) < (τ 0 33).toInt → (j : Int) < (τ 0 33).toInt → τ 17 i = τ 17 j → i = j)
theorem pig : ∀ (n m : Nat) (q : Nat → Nat), (∀ i, i < m → q i < n) → (∀ i j, i < m → j < m → q i = q j → i = j) → m ≤ n
  | 0, m, q, h, _ => by
    by_cases c : 0 < m
    · have := h 0 c; omega
    · omega
  | n + 1, m, q, h, hi => by
    by_cases c : ∃ i, i < m ∧ q i = n
    · obtain ⟨i0, hi0, hq0⟩ := c
      have := pig n (m - 1) (fun i => if i < i0 then q i else q (i + 1)) (fun i him => by
        by_cases ci : i < i0
        · rw [if_pos ci]
          have h1 := h i (by omega)
          have h2 : q i ≠ n := fun e => by have := hi i i0 (by omega) hi0 (by omega); omega
          omega
        · rw [if_neg ci]
          have h1 := h (i + 1) (by omega)
          have h2 : q (i + 1) ≠ n := fun e => by have := hi (i + 1) i0 (by omega) hi0 (by omega); omega
          omega) (fun i j him hjm hq => by
        by_cases ci : i < i0
        · by_cases cj : j < i0
          · rw [if_pos ci, if_pos cj] at hq; exact hi i j (by omega) (by omega) hq
          · rw [if_pos ci, if_neg cj] at hq; have := hi i (j + 1) (by omega) (by omega) hq; omega
        · by_cases cj : j < i0
          · rw [if_neg ci, if_pos cj] at hq; have := hi (i + 1) j (by omega) (by omega) hq; omega
          · rw [if_neg ci, if_neg cj] at hq; have := hi (i + 1) (j + 1) (by omega) (by omega) hq; omega)
      omega
    · have := pig n m q (fun i him => by
        have h1 := h i him
        have h2 : q i ≠ n := fun e => c ⟨i, him, e⟩
        omega) hi
      omega
theorem rl_L_le {σ τ : pt_St} (h : rl_L σ τ) : (τ 0 33).toInt ≤ 6 := by
  obtain ⟨l1, l2, l3, l4⟩ := h
  have := pig 6 (τ 0 33).toInt.toNat (fun i => (τ 17 i).toInt.toNat) (fun i hi => by
    obtain ⟨-, t, q2, q3, -⟩ := l3 i (by omega)
    rw [q3, i_nI (by omega)]; omega) (fun i j hi hj hq => by
    obtain ⟨-, t, q2, q3, -⟩ := l3 i (by omega)
    obtain ⟨-, u, p2, p3, -⟩ := l3 j (by omega)
    refine l4 i j (by omega) (by omega) ?_
    rw [q3, p3, i_nI (by omega), i_nI (by omega)] at hq
    rw [q3, p3, show t = u by omega])
  omega
/-- no two that wait or work have the same block; and it was taken -/
def rl_D (τ : pt_St) : Prop :=
  (∀ t, t < 6 → (τ 8 t = 1 ∨ τ 8 t = 2) → (τ 9 t).toInt < (τ 0 24).toInt) ∧ (∀ t u, t < 6 → u < 6 → t ≠ u → (τ 8 t = 1 ∨ τ 8 t = 2) → (τ 8 u = 1 ∨ τ 8 u = 2) → τ 9 t ≠ τ 9 u)
/-- what holds when the stream has begun -/
def rl_I (σ τ : pt_St) : Prop :=
  (1 ≤ (τ 0 15).toInt ∧ (τ 0 15).toInt ≤ 6) ∧ (τ 0 16).toInt = rl_many τ ∧ σ 7 2 = τ 0 5 ∧ (-1 ≤ (τ 0 23).toInt ∧ (τ 0 23).toInt < (τ 0 15).toInt) ∧ (0 ≤ (τ 0 24).toInt ∧ (τ 0 24).toInt ≤ (τ 0 16).toInt) ∧ (0 ≤ (τ 0 30).toInt ∧ (τ 0 30).toInt ≤ (τ 0 16).toInt) ∧
  (0 ≤ (τ 0 27).toInt ∧ (τ 0 27).toInt ≤ rl_cnt (τ 14) 40 ∧ (∀ j : Nat, (τ 0 24).toInt ≤ (j : Int) → j < 40 → τ 14 j = 0) ∧ ∀ i : Nat, (i : Int) < (τ 0 27).toInt → 0 ≤ (τ 15 i).toInt ∧ (τ 15 i).toInt < (τ 0 24).toInt) ∧
  (∀ t, t < 6 → rl_T σ τ t) ∧ rl_L σ τ ∧ (0 < (τ 0 33).toInt → (τ 0 31).toInt < rl_len τ (τ 9 (τ 17 0).toInt.toNat).toInt) ∧
  ((τ 0 34 = -1 ∧ τ 0 35 = 0) ∨ (0 ≤ (τ 0 34).toInt ∧ 1 ≤ (τ 0 35).toInt ∧ ∀ u, u < 6 → τ 8 u ≠ 1 ∧ τ 8 u ≠ 2)) ∧
  (0 ≤ (τ 0 31).toInt ∧ (τ 0 31).toInt + rl_sum τ 6 = (τ 0 4).toInt) ∧ (∀ b : Nat, b < 40 → τ 16 b ≠ 0 → (b : Int) < (τ 0 16).toInt) ∧ rl_D τ
def rl_R (σ τ : pt_St) : Prop := rl_A σ τ ∧ rl_B τ ∧ rl_E σ τ ∧ (τ 0 9 = 1 → rl_P σ τ) ∧ (τ 0 14 = 1 → rl_I σ τ)
theorem pt_ne {σ : pt_St} {k j : Nat} {v : Int32} {k' : Nat} (h : k' ≠ k) : pt_put σ k j v k' = σ k' := by rw [pt_row, if_neg h]
theorem pt_nj {σ : pt_St} {k j : Nat} {v : Int32} {j' : Nat} (h : j' ≠ j) : pt_put σ k j v k j' = σ k j' := by rw [pt_pk, if_pos rfl, if_neg h]
theorem pt_eq {σ : pt_St} {k j : Nat} {v : Int32} : pt_put σ k j v k j = v := by rw [pt_pk, if_pos rfl, if_pos rfl]
theorem rl_E_fr {σ τ σ' τ' : pt_St} (h : rl_E σ τ) (hs : ∀ k, ((5 ≤ k ∧ k ≤ 14) ∨ k = 20 ∨ k = 21 ∨ (24 ≤ k ∧ k ≤ 26)) → σ' k = σ k) (h0 : ∀ j, 15 ≤ j → τ' 0 j = τ 0 j) (ht : ∀ k, 6 ≤ k → τ' k = τ k) : rl_E σ' τ' := by
  unfold rl_E at h ⊢
  rw [hs 5 (by omega), hs 6 (by omega), hs 7 (by omega), hs 8 (by omega), hs 24 (by omega), hs 25 (by omega), hs 26 (by omega), hs 20 (by omega), hs 21 (by omega), h0 15 (by omega), h0 23 (by omega), h0 24 (by omega), h0 34 (by omega), h0 35 (by omega), h0 36 (by omega), h0 37 (by omega), h0 33 (by omega), h0 31 (by omega), h0 29 (by omega), h0 30 (by omega), h0 27 (by omega), ht 16 (by omega), ht 14 (by omega), ht 15 (by omega), ht 6 (by omega), ht 7 (by omega)]
  obtain ⟨g1, g2, g3, g4, g5, g6, g7, g8, g9, g10, g11, g12, g13, g14, g15, g16, g17, g18⟩ := h
  refine ⟨g1, g2, g3, g4, g5, g6, g7, g8, g9, g10, g11, g12, g13, g14, g15, g16, g17, fun t h6 => ?_⟩
  rw [hs (9 + t) (by omega), ht 8 (by omega), ht 9 (by omega), ht 11 (by omega), ht 12 (by omega), ht 13 (by omega)]
  exact g18 t h6
