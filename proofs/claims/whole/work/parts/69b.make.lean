theorem blk_lt {s z b : Nat} (hz : 4 ≤ z) (h : b < (s + z - 1) / z) : b * z < s := by
  have h1 : (b + 1) * z ≤ s + z - 1 := (Nat.le_div_iff_mul_le (by omega)).mp h
  have h2 : (b + 1) * z = b * z + z := by rw [Nat.add_mul, Nat.one_mul]
  omega
theorem blk_le {s z : Nat} (hs : s ≤ 160) (hz : 4 ≤ z) : (s + z - 1) / z ≤ 40 := by
  have : (s + z - 1) / z < 41 := (Nat.div_lt_iff_lt_mul (by omega)).mpr (by omega)
  omega
/-- class and reference behind the first b blocks -/
def pk_M (σ0 τ0 σ τ : pt_St) (s z b P : Nat) : Prop :=
  (∀ c, c ≠ 4 → c ≠ 19 → c ≠ 20 → c ≠ 21 → σ c = σ0 c) ∧ (∀ j, j ≠ 5 → j ≠ 7 → σ 4 j = σ0 4 j) ∧ σ 4 5 = nI P ∧ (∀ i, i < P → σ 19 i = τ 5 i) ∧ (∀ c, c ≠ 0 → c ≠ 5 → c ≠ 6 → c ≠ 7 → τ c = τ0 c) ∧ (∀ j, j ≠ 10 → τ 0 j = τ0 0 j) ∧ τ 0 10 = nI P ∧ σ 20 = τ 6 ∧ σ 21 = τ 7 ∧ P ≤ min (b * z) s + 2 * b ∧
  (∀ d, d < b → 1 ≤ (τ 7 d).toInt ∧ 0 ≤ (τ 6 d).toInt ∧ (τ 6 d).toInt ≤ (P : Int))
set_option maxHeartbeats 4000000 in
theorem make_lp {σ0 τ0 : pt_St} {s w z : Nat} (hs : σ0 1 1 = nI s) (hs' : τ0 0 1 = nI s) (h2 : s ≤ 160) (hw : σ0 2 1 = nI w) (hw' : τ0 0 3 = nI w) (hw2 : w ≤ 64) (hzz : σ0 2 0 = nI z) (hz' : τ0 0 2 = nI z) (hz : 4 ≤ z) (hz2 : z ≤ 32) (ht : σ0 15 = τ0 1) (h46 : σ0 4 6 = nI ((s + z - 1) / z)) {kC : pt_St → Int32 → Option pt_St} {kR : pt_St → Int32 → Option pt_St} :
    ∀ (m b P n nR : Nat) (σ τ : pt_St), b + m = (s + z - 1) / z → pk_M σ0 τ0 σ τ s z b P → m < n → m < nR → ∃ (σ' τ' : pt_St) (P' : Nat), lp_X2_make_23 kC n σ (nI b) = kC σ' (nI ((s + z - 1) / z)) ∧ lp_X10_packAll_20 kR nR τ (nI b) = kR τ' (nI ((s + z - 1) / z)) ∧ pk_M σ0 τ0 σ' τ' s z ((s + z - 1) / z) P' := by
  have hnb : (s + z - 1) / z ≤ 40 := blk_le h2 hz
  intro m
  induction m with
  | zero =>
    intro b P n nR σ τ hb hM hn hnR
    obtain ⟨n, rfl⟩ : ∃ z, n = z + 1 := ⟨n - 1, by omega⟩
    obtain ⟨nR, rfl⟩ : ∃ z, nR = z + 1 := ⟨nR - 1, by omega⟩
    obtain ⟨m1, m2, m3, m4, m5, m6, m7, m8, m9, m10, m11⟩ := id hM
    have eb : b = (s + z - 1) / z := by omega
    have qb : (nI b).toInt = (b : Int) := i_nI (by omega)
    refine ⟨σ, τ, P, ?_, ?_, by rw [← eb]; exact hM⟩
    · rw [lp_X2_make_23, m2 6 (by omega) (by omega), h46, ← eb, if_pos (by rw [Int32.le_iff_toInt_le]; omega)]
    · rw [lp_X10_packAll_20, many_R (by rw [m6 1 (by omega)]; exact hs') (by rw [m6 2 (by omega)]; exact hz') h2 hz hz2, pt_b2e, ← eb, if_pos (by rw [Int32.le_iff_toInt_le]; omega)]
  | succ m ih =>
    intro b P n nR σ τ hb hM hn hnR
    obtain ⟨n, rfl⟩ : ∃ z, n = z + 1 := ⟨n - 1, by omega⟩
    obtain ⟨nR, rfl⟩ : ∃ z, nR = z + 1 := ⟨nR - 1, by omega⟩
    obtain ⟨m1, m2, m3, m4, m5, m6, m7, m8, m9, m10, m11⟩ := id hM
    have qb : (nI b).toInt = (b : Int) := i_nI (by omega)
    have qn : (nI ((s + z - 1) / z)).toInt = (((s + z - 1) / z : Nat) : Int) := i_nI (by omega)
    have hbz : b * z < s := blk_lt hz (by omega)
    have hbc : (nI b).toNatClampNeg = b := nI_clamp (by omega)
    have hs1 : σ 1 1 = nI s := by rw [m1 1 (by omega) (by omega) (by omega) (by omega)]; exact hs
    have hz1 : σ 2 0 = nI z := by rw [m1 2 (by omega) (by omega) (by omega) (by omega)]; exact hzz
    have hlm : min z (s - b * z) + min (b * z) s = min ((b + 1) * z) s ∧ min z (s - b * z) ≤ s - b * z := by
      have h3 : (b + 1) * z = b * z + z := by rw [Nat.add_mul, Nat.one_mul]
      rw [h3]; omega
    have hPm : P + min z (s - b * z) + 1 < 240 := by
      have : min (b * z) s = b * z := by omega
      rw [this] at m10; omega
    obtain ⟨σ1, τ1, P1, st, u1, u2, u3, u4, u5, u6, u7, u8, u9, u10, u11, u12, u13, u14, u15, u16, u17⟩ := block_ok (σ := σ) (τ := τ) (w := w) (P := P) hs1 (by rw [m6 1 (by omega)]; exact hs') h2 (by rw [m1 2 (by omega) (by omega) (by omega) (by omega)]; exact hw) (by rw [m6 3 (by omega)]; exact hw') hw2 (by rw [m6 2 (by omega)]; exact hz') hz hz2 (by rw [m1 15 (by omega) (by omega) (by omega) (by omega), m5 1 (by omega) (by omega) (by omega) (by omega)]; exact ht) (by omega) hbz m3 m7 m4 hPm
    have hst : (nI st).toInt = (st : Int) := i_nI (by omega)
    have hP1 : (nI P1).toInt = (P1 : Int) := i_nI (by omega)
    have hM2 : pk_M σ0 τ0 (pt_put (pt_put σ1 21 b (nI st)) 20 b (nI P1)) τ1 s z (b + 1) P1 := by
      refine ⟨fun c c4 c19 c20 c21 => by rw [pt_ne c20, pt_ne c21, u7 c c4 c19]; exact m1 c c4 c19 c20 c21, fun j h5 h7 => by rw [pt_ne (by omega), pt_ne (by omega), u8 j h5 h7]; exact m2 j h5 h7, by rw [pt_ne (by omega), pt_ne (by omega)]; exact u9, fun i hi => by rw [pt_ne (by omega), pt_ne (by omega)]; exact u10 i hi, fun c c0 c5 c6 c7 => by rw [u11 c c0 c5 c6 c7]; exact m5 c c0 c5 c6 c7, fun j hj => by rw [u12 j hj]; exact m6 j hj, u15, ?_, ?_, by omega, fun d hd => ?_⟩
      · funext j
        by_cases hj : j = b
        · subst hj; rw [pt_eq, u17]
        · rw [pt_nj hj, pt_ne (by omega), u14 j hj, u7 20 (by omega) (by omega), m8]
      · funext j
        rw [pt_ne (by omega)]
        by_cases hj : j = b
        · subst hj; rw [pt_eq, u16]
        · rw [pt_nj hj, u13 j hj, u7 21 (by omega) (by omega), m9]
      · by_cases hj : d = b
        · subst hj; rw [u16, u17, hst, hP1]; omega
        · rw [u13 d hj, u14 d hj]
          have := m11 d (by omega)
          omega
    obtain ⟨σ', τ', P', v1, v2, v3⟩ := ih (b + 1) P1 n nR _ τ1 (by omega) hM2 (by omega) (by omega)
    refine ⟨σ', τ', P', ?_, ?_, v3⟩
    · rw [lp_X2_make_23, m2 6 (by omega) (by omega), h46, if_neg (by rw [Int32.le_iff_toInt_le]; omega), if_neg (by rw [Int32.le_iff_toInt_le, i_40]; omega), f_X5_size, pt_b2e, len_C hs1 hz1 h2 hz hz2 hbz, pt_b2e, hz1, pk_mul, nI_add, u1, pt_b2e, if_pos (nI_in (by omega) (by omega)), hbc, pt_doe, pt_ne (by omega), u9, pt_doe, nI_1]
      exact v1
    · rw [lp_X10_packAll_20, many_R (by rw [m6 1 (by omega)]; exact hs') (by rw [m6 2 (by omega)]; exact hz') h2 hz hz2, pt_b2e, if_neg (by rw [Int32.le_iff_toInt_le]; omega), u2, pt_b1e, nI_1]
      exact v2
