/-! ===== what is laid ===== -/
theorem put_ok {σ : pt_St} {C : Nat} (v : Int32) (h : σ 4 5 = nI C) (hC : C < 240) : f_X2_put σ v = some (pt_put (pt_put σ 19 C v) 4 5 (nI (C + 1))) := by
  have q : (nI C).toInt = (C : Int) := i_nI (by omega)
  have q2 : (nI C).toNatClampNeg = C := nI_clamp (by omega)
  rw [f_X2_put, h, if_neg (by rw [Int32.lt_iff_toInt_lt, i_0]; omega), if_neg (by rw [Int32.le_iff_toInt_le, i_240]; omega), if_pos (nI_in hC (by omega)), pt_doe, q2, pt_ne (by omega), h, nI_1, pt_doe]
theorem lay_ok {τ : pt_St} {P : Nat} (v : Int32) (h : τ 0 10 = nI P) (hP : P < 700) : f_X10_lay τ v = some (pt_put (pt_put τ 5 P v) 0 10 (nI (P + 1))) := by
  have q2 : (nI P).toNatClampNeg = P := nI_clamp (by omega)
  rw [f_X10_lay, h, if_pos (nI_in hP (by omega)), pt_doe, q2, pt_ne (by omega), h, nI_1, pt_doe]
theorem plain_lp {k : pt_St → Int32 → Option pt_St} {a1 : Int32} {b : Nat} (hb : b ≤ 160) : ∀ (m i P n : Nat) (τ : pt_St), i + m = b → m < n → τ 0 10 = nI P → P + m ≤ 700 → ∃ τ', lp_X10_plainTo_15 k a1 (nI b) n τ (nI i) = k τ' (nI b) ∧ (∀ c, c ≠ 0 → c ≠ 5 → τ' c = τ c) ∧ (∀ j, j ≠ 10 → τ' 0 j = τ 0 j) ∧ τ' 0 10 = nI (P + m) ∧ (∀ j, j < P → τ' 5 j = τ 5 j) ∧ (∀ j, j < m → τ' 5 (P + j) = τ 1 (i + j)) := by
  intro m
  induction m with
  | zero =>
    intro i P n τ hi hn h hP
    obtain ⟨n, rfl⟩ : ∃ z, n = z + 1 := ⟨n - 1, by omega⟩
    have q : (nI i).toInt = (i : Int) := i_nI (by omega)
    have q2 : (nI b).toInt = (b : Int) := i_nI (by omega)
    refine ⟨τ, ?_, fun _ _ _ => rfl, fun _ _ => rfl, h, fun _ _ => rfl, fun j hj => by omega⟩
    rw [lp_X10_plainTo_15, if_pos (by rw [Int32.le_iff_toInt_le]; omega), show i = b by omega]
  | succ m ih =>
    intro i P n τ hi hn h hP
    obtain ⟨n, rfl⟩ : ∃ z, n = z + 1 := ⟨n - 1, by omega⟩
    have q : (nI i).toInt = (i : Int) := i_nI (by omega)
    have q2 : (nI b).toInt = (b : Int) := i_nI (by omega)
    have q3 : (nI i).toNatClampNeg = i := nI_clamp (by omega)
    obtain ⟨τ', h1, h2, h3, h4, h5, h6⟩ := ih (i + 1) (P + 1) n (pt_put (pt_put τ 5 P (τ 1 i)) 0 10 (nI (P + 1))) (by omega) (by omega) pt_eq (by omega)
    refine ⟨τ', ?_, fun c c1 c2 => by rw [h2 c c1 c2, pt_ne c1, pt_ne c2], fun j hj => by rw [h3 j hj, pt_nj hj, pt_ne (by omega)], by rw [h4]; congr 1; omega, fun j hj => by rw [h5 j (by omega), pt_ne (by omega), pt_nj (by omega)], fun j hj => ?_⟩
    · rw [lp_X10_plainTo_15, if_neg (by rw [Int32.le_iff_toInt_le]; omega), if_pos (nI_in (by omega) (by omega)), q3, lay_ok _ h (by omega), pt_b1e, nI_1]
      exact h1
    · by_cases hj0 : j = 0
      · subst hj0
        rw [h5 (P + 0) (by omega), pt_ne (by omega), show P + 0 = P by omega, pt_eq]; rfl
      · have := h6 (j - 1) (by omega)
        rw [show P + 1 + (j - 1) = P + j by omega, pt_ne (by omega), pt_ne (by omega), show i + 1 + (j - 1) = i + j by omega] at this
        exact this
theorem plain_ok {τ : pt_St} {a b P : Nat} (hb : b ≤ 160) (ha : a ≤ b) (h : τ 0 10 = nI P) (hP : P + 1 + (b - a) ≤ 700) : ∃ τ', f_X10_plainTo τ (nI a) (nI b) = some τ' ∧ (∀ c, c ≠ 0 → c ≠ 5 → τ' c = τ c) ∧ (∀ j, j ≠ 10 → τ' 0 j = τ 0 j) ∧ (∀ j, j < P → τ' 5 j = τ 5 j) ∧ ((a = b ∧ τ' = τ) ∨ (a < b ∧ τ' 0 10 = nI (P + 1 + (b - a)) ∧ τ' 5 P = nI (b - a) ∧ ∀ j, j < b - a → τ' 5 (P + 1 + j) = τ 1 (a + j))) := by
  unfold f_X10_plainTo
  by_cases c : a = b
  · refine ⟨τ, by rw [if_pos (by rw [c])], fun _ _ _ => rfl, fun _ _ => rfl, fun _ _ => rfl, Or.inl ⟨c, rfl⟩⟩
  · have hne : ¬ nI a = nI b := fun q => c ((nI_eq (by omega) (by omega)).mp q)
    obtain ⟨τ', h1, h2, h3, h4, h5, h6⟩ := plain_lp (k := kx_X10_plainTo_15 (nI a) (nI b)) (a1 := nI a) hb (b - a) a (P + 1) pt_F (pt_put (pt_put τ 5 P (nI (b - a))) 0 10 (nI (P + 1))) (by omega) (by unfold pt_F; omega) pt_eq (by omega)
    refine ⟨τ', ?_, fun c c1 c2 => by rw [h2 c c1 c2, pt_ne c1, pt_ne c2], fun j hj => by rw [h3 j hj, pt_nj hj, pt_ne (by omega)], fun j hj => by rw [h5 j (by omega), pt_ne (by omega), pt_nj (by omega)], Or.inr ⟨by omega, h4, by rw [h5 P (by omega), pt_ne (by omega), pt_eq], fun j hj => ?_⟩⟩
    · rw [if_neg hne, pk_sub ha, lay_ok _ h (by omega), pt_b1e, h1]; rfl
    · have := h6 j hj
      rw [pt_ne (by omega), pt_ne (by omega)] at this
      exact this
/-- the length of what the class keeps of an open run -/
def rr_ (r : Nat) : Nat := if r = 0 then 0 else r + 1
theorem byte_new {σ : pt_St} {C : Nat} (v : Int32) (h : σ 4 5 = nI C) (h7 : σ 4 7 = -1) (hC : C + 1 < 240) : ∃ σ', f_X2_putByte σ v = some σ' ∧ (∀ c, c ≠ 4 → c ≠ 19 → σ' c = σ c) ∧ (∀ j, j ≠ 5 → j ≠ 7 → σ' 4 j = σ 4 j) ∧ σ' 4 5 = nI (C + 2) ∧ σ' 4 7 = nI C ∧ (∀ j, j < C → σ' 19 j = σ 19 j) ∧ σ' 19 C = nI 1 ∧ σ' 19 (C + 1) = v := by
  have q : (nI C).toInt = (C : Int) := i_nI (by omega)
  have q2 : (nI C).toNatClampNeg = C := nI_clamp (by omega)
  have e1 : (pt_put σ 4 7 (nI C)) 4 5 = nI C := by rw [pt_nj (by omega), h]
  refine ⟨_, by
    rw [f_X2_putByte, if_pos h7, h, pt_doe, put_ok 0 e1 (by omega), pt_b1e]
    have e2 : pt_put (pt_put (pt_put σ 4 7 (nI C)) 19 C 0) 4 5 (nI (C + 1)) 4 7 = nI C := by rw [pt_nj (by omega), pt_ne (by omega), pt_eq]
    rw [e2, if_neg (by rw [Int32.lt_iff_toInt_lt, i_0]; omega), if_neg (by rw [Int32.le_iff_toInt_le, i_240]; omega), if_pos (nI_in (by omega) (by omega)), pt_doe, q2]
    rw [put_ok (C := C + 1) v (by rw [pt_ne (by omega), pt_eq]) (by omega), pt_b1e], ?_, ?_, ?_, ?_, ?_, ?_, ?_⟩
  · intro c c1 c2
    simp (disch := omega) only [pt_ne]
  · intro j j1 j2
    simp (disch := omega) only [pt_ne, pt_nj]
  · rw [pt_eq]
  · simp (disch := omega) only [pt_ne, pt_nj, pt_eq]
  · intro j hj
    simp (disch := omega) only [pt_ne, pt_nj]
  · simp (disch := omega) only [pt_ne, pt_nj, pt_eq]
    decide
  · simp (disch := omega) only [pt_ne, pt_nj, pt_eq]
theorem byte_more {σ : pt_St} {C P r : Nat} (v : Int32) (h : σ 4 5 = nI C) (h7 : σ 4 7 = nI P) (hP : P < C) (hC : C < 240) (hr : σ 19 P = nI r) : ∃ σ', f_X2_putByte σ v = some σ' ∧ (∀ c, c ≠ 4 → c ≠ 19 → σ' c = σ c) ∧ (∀ j, j ≠ 5 → j ≠ 7 → σ' 4 j = σ 4 j) ∧ σ' 4 5 = nI (C + 1) ∧ σ' 4 7 = nI P ∧ (∀ j, j < C → j ≠ P → σ' 19 j = σ 19 j) ∧ σ' 19 P = nI (r + 1) ∧ σ' 19 C = v := by
  have q : (nI P).toInt = (P : Int) := i_nI (by omega)
  have q2 : (nI P).toNatClampNeg = P := nI_clamp (by omega)
  refine ⟨_, by
    rw [f_X2_putByte, h7, if_neg (by rw [i_eq, i_m1]; omega), if_neg (by rw [Int32.lt_iff_toInt_lt, i_0]; omega), if_neg (by rw [Int32.le_iff_toInt_le, i_240]; omega), if_pos (nI_in (by omega) (by omega)), pt_doe, q2, hr, nI_1, put_ok (C := C) v (by rw [pt_ne (by omega), h]) hC, pt_b1e], ?_, ?_, ?_, ?_, ?_, ?_, ?_⟩
  · intro c c1 c2
    simp (disch := omega) only [pt_ne]
  · intro j j1 j2
    simp (disch := omega) only [pt_ne, pt_nj]
  · rw [pt_eq]
  · simp (disch := omega) only [pt_ne, pt_nj, h7]
  · intro j hj hj2
    simp (disch := omega) only [pt_ne, pt_nj]
  · simp (disch := omega) only [pt_ne, pt_nj, pt_eq]
  · simp (disch := omega) only [pt_ne, pt_nj, pt_eq]
theorem copy_ok {σ : pt_St} {C n d : Nat} (h : σ 4 5 = nI C) (hC : C + 1 < 240) (hn : n ≤ 200) (hd : 1 ≤ d) : ∃ σ', f_X2_putCopy σ (nI n) (nI d) = some σ' ∧ (∀ c, c ≠ 4 → c ≠ 19 → σ' c = σ c) ∧ (∀ j, j ≠ 5 → j ≠ 7 → σ' 4 j = σ 4 j) ∧ σ' 4 5 = nI (C + 2) ∧ σ' 4 7 = -1 ∧ (∀ j, j < C → σ' 19 j = σ 19 j) ∧ σ' 19 C = nI (125 + n) ∧ σ' 19 (C + 1) = nI (d - 1) := by
  have e1 : ((128 : Int32) + nI n) - 3 = nI (125 + n) := by
    show nI 128 + nI n - nI 3 = _
    rw [nI_add, pk_sub (by omega)]; congr 1; omega
  have e2 : nI d - 1 = nI (d - 1) := by
    show nI d - nI 1 = _
    rw [pk_sub hd]
  refine ⟨_, by
    rw [f_X2_putCopy, e1, e2, put_ok (C := C) _ h (by omega), pt_b1e, put_ok (C := C + 1) _ pt_eq (by omega), pt_b1e, pt_doe], ?_, ?_, ?_, ?_, ?_, ?_, ?_⟩
  · intro c c1 c2
    simp (disch := omega) only [pt_ne]
  · intro j j1 j2
    simp (disch := omega) only [pt_ne, pt_nj]
  · simp (disch := omega) only [pt_ne, pt_nj, pt_eq]
  · rw [pt_eq]
  · intro j hj
    simp (disch := omega) only [pt_ne, pt_nj]
  · simp (disch := omega) only [pt_ne, pt_nj, pt_eq]
  · simp (disch := omega) only [pt_ne, pt_nj, pt_eq]
