/-! ===== a thread at work has its turn ===== -/
theorem cnt_le (f : Nat → Int32) : ∀ n : Nat, rl_cnt f n ≤ (n : Int)
  | 0 => by simp only [rl_cnt]; omega
  | n + 1 => by
    have := cnt_le f n
    simp only [rl_cnt]
    by_cases c : f n = 0
    · rw [if_pos c]; omega
    · rw [if_neg c]; omega
theorem cnt_up {f : Nat → Int32} {b : Nat} (hb : f b = 0) : ∀ n : Nat, rl_cnt (upd f b 1) n = rl_cnt f n + (if b < n then 1 else 0)
  | 0 => by simp [rl_cnt]
  | n + 1 => by
    have ih := cnt_up hb n
    simp only [rl_cnt]
    rw [ih, upd_at]
    by_cases c : n = b
    · subst c
      rw [if_pos rfl, hb, if_neg (show ¬ (1 : Int32) = 0 by decide), if_pos (show (0 : Int32) = 0 from rfl), if_neg (Nat.lt_irrefl n), if_pos (Nat.lt_succ_self n)]
    · rw [if_neg c]
      by_cases c2 : b < n
      · rw [if_pos c2, if_pos (show b < n + 1 by omega)]; omega
      · rw [if_neg c2, if_neg (show ¬ b < n + 1 by omega)]; omega
/-- the place within a block is changed -/
theorem pos_upd {σ τ : pt_St} {t : Nat} {v : Int32} (h : rl_R σ τ) (hb : τ 0 14 = 1) (ht : t < 6) (h2 : τ 8 t = 2) (v0 : 0 ≤ v.toInt) (v1 : v.toInt < (τ 7 (τ 9 t).toInt.toNat).toInt) : rl_R (pt_put σ (9 + t) 3 v) (pt_put τ 10 t v) := by
  obtain ⟨hA, hB, hE, hP, hI⟩ := id h
  obtain ⟨e1, e2, e3, e4, e5, e6, e7, e8, e9, e10, e11⟩ := id hA
  obtain ⟨b1, b2, b3, b4, b5, b6, b7, b8, b9, b10, b11, b12, b13, b14⟩ := id hB
  obtain ⟨g1, g2, g3, g4, g5, g6, g7, g8, g9, g10, g11, g12, g13, g14, g15, g16, g17, g18⟩ := id hE
  obtain ⟨i1, i2, i3, i4, i5, i6, i7, i8, i9, i10, i11, i12, i13, i14⟩ := id (hI hb)
  have tk : ∀ k, k ≠ 10 → pt_put τ 10 t v k = τ k := fun k hk => pt_ne hk
  have t0 := tk 0 (by omega)
  refine ⟨rl_A_fr hA (fun k hk => by rw [pt_ne (by omega)]) (by rw [pt_ne (by omega)]) (fun j hj => by rw [t0]) (fun k k1 k2 => tk k (by omega)), rl_B_fr hB (fun j hj => by rw [t0]) (tk 2 (by omega)), ?_, fun q => rl_P_fr (hP (by rw [← t0]; exact q)) (by rw [pt_ne (by omega)]) (by rw [pt_ne (by omega)]) (pt_ne (by omega)) (fun j hj => by rw [t0]) (fun k hk => tk k (by omega)), fun _ => ?_⟩
  · unfold rl_E
    simp (disch := omega) only [pt_ne]
    refine ⟨g1, g2, g3, g4, g5, g6, g7, g8, g9, g10, g11, g12, g13, g14, g15, g16, g17, fun u hu => ?_⟩
    by_cases c : u = t
    · subst c; simp (disch := omega) only [pt_nj]; exact g18 u hu
    · simp (disch := omega) only [pt_ne]; exact g18 u hu
  · have hl := fun b => rl_len_fr (τ := τ) (τ' := pt_put τ 10 t v) (by rw [t0]) (by rw [t0]) b
    refine ⟨by rw [t0]; exact i1, by rw [t0, rl_many_fr (τ := τ) (by rw [t0]) (by rw [t0])]; exact i2, by rw [pt_ne (by omega), t0]; exact i3, by rw [t0]; exact i4, by rw [t0]; exact i5, by rw [t0]; exact i6, by rw [t0, tk 14 (by omega), tk 15 (by omega)]; exact i7, fun u hu => ?_, ?_, ?_, ?_, ?_, by rw [tk 16 (by omega), t0]; exact i13, by unfold rl_D; rw [tk 8 (by omega), tk 9 (by omega), t0]; exact i14⟩
    · obtain ⟨y1, y2, y3, y4, y5, y6, y7, y8, y9⟩ := i8 u hu
      unfold rl_T
      rw [t0, tk 8 (by omega), tk 9 (by omega), tk 7 (by omega), tk 14 (by omega), hl]
      by_cases c : u = t
      · subst c
        rw [pt_eq, pt_eq, pt_nj (by omega)]
        exact ⟨y1, y2, y3, y4, fun _ => ⟨v0, v1, rfl⟩, fun q => absurd h2 q, y7, y8, y9⟩
      · rw [pt_nj c, pt_ne (by omega)]
        exact ⟨y1, y2, y3, y4, y5, y6, y7, y8, y9⟩
    · unfold rl_L at i9 ⊢
      rw [t0, tk 8 (by omega), tk 17 (by omega), pt_ne (by omega)]; exact i9
    · rw [t0, hl, tk 9 (by omega), tk 17 (by omega)]; exact i10
    · rw [t0, tk 8 (by omega)]; exact i11
    · rw [t0, rl_sum_fr (τ := τ) (by rw [t0]) (by rw [t0]) 6 (fun u _ => by rw [tk 8 (by omega), tk 9 (by omega)]; exact ⟨rfl, fun _ => rfl⟩)]; exact i12
def wk_S (τ : pt_St) (t b : Nat) (a1 r2 : Int32) : Option (Int32 × pt_St) :=
  pt_do (pt_put τ 10 t (τ 10 t + 1)) fun σ7 =>
  if σ7 10 t = σ7 7 b then
  pt_do (pt_put σ7 11 t (σ7 11 t + 1)) fun σ9 =>
  pt_do (pt_put σ9 8 t 3) fun σ10 =>
  pt_b1 (f_X10_givesBack σ10 r2) fun σ11 => pt_b2 (f_X10_lays σ11 a1) fun r12 σ12 => some ((1 : Int32), σ12)
  else some ((1 : Int32), σ7)
def wk_F (τ : pt_St) (t b : Nat) (x9 r2 : Int32) : Option (Int32 × pt_St) :=
  pt_do (pt_put τ 0 36 (τ 0 36 + 1)) fun σ15 =>
  pt_do (pt_put σ15 8 t 0) fun σ16 =>
  pt_do (pt_put σ16 9 t (-1)) fun σ17 =>
  if σ17 14 b = 0 then
  pt_do (pt_put σ17 14 b (vp_nar .boolean 1)) fun σ19 =>
  if pt_in (σ19 0 27) 40 then
  pt_do (pt_put σ19 15 (σ19 0 27).toNatClampNeg x9) fun σ21 =>
  pt_do (pt_put σ21 0 27 (σ21 0 27 + 1)) fun σ22 =>
  pt_b1 (f_X10_givesBack σ22 r2) fun σ23 => some ((1 : Int32), σ23)
  else none
  else
  pt_do (pt_put σ17 0 34 x9) fun σ24 =>
  pt_do (pt_put σ24 0 35 (σ24 2 b)) fun σ25 =>
  pt_b1 (f_X10_givesBack σ25 r2) fun σ26 => some ((1 : Int32), σ26)
set_option maxHeartbeats 4000000 in
theorem work_R {τ : pt_St} {t b : Nat} {r2 : Int32} (ht : t < 6) (hb : b < 40) (h9 : τ 9 t = nI b) (hl : f_X10_lengthOf τ (nI b) = some (r2, τ)) (hs : τ 0 35 = 0) : f_X10_work τ (nI t) = if (1 ≤ (τ 2 b).toInt ∧ τ 3 b = τ 10 t ∧ (τ 14 b = 0 ∨ τ 4 b ≠ 0)) then wk_F τ t b (nI b) r2 else wk_S τ t b (nI t) r2 := by
  have qt : (nI t).toNatClampNeg = t := nI_clamp (by omega)
  have qb : (nI b).toNatClampNeg = b := nI_clamp (by omega)
  rw [f_X10_work, if_pos (nI_in ht (by omega)), qt, h9, hl, pt_b2e, f_X10_isStopped, hs, if_pos (by decide), pt_b2e, if_pos rfl, if_pos (nI_in hb (by omega)), qb]
  by_cases c1 : 1 ≤ (τ 2 b).toInt
  · rw [if_neg (by rw [Int32.le_iff_toInt_le, i_0]; omega)]
    by_cases c2 : τ 3 b = τ 10 t
    · rw [if_pos c2]
      by_cases c3 : τ 14 b = 0
      · rw [if_pos c3, if_pos ⟨c1, c2, Or.inl c3⟩]; rfl
      · rw [if_neg c3]
        by_cases c4 : τ 4 b = 0
        · rw [if_pos c4, if_neg (fun q => by rcases q.2.2 with q | q; exact c3 q; exact q c4)]; rfl
        · rw [if_neg c4, if_pos ⟨c1, c2, Or.inr c4⟩]; rfl
    · rw [if_neg c2, if_neg (fun q => c2 q.2.1)]; rfl
  · rw [if_pos (by rw [Int32.le_iff_toInt_le, i_0]; omega), if_neg (fun q => c1 q.1)]; rfl
theorem kind_C {σ : pt_St} {b : Nat} {x : Int32} (hb : b < 40) : ∃ r1, f_X0_has σ (nI b) = some (r1, σ) ∧ (r1 = 0 ↔ σ 25 b = 0) ∧ f_X3_kindAt σ (nI b) x r1 = some ((if σ 16 b = x ∧ (σ 25 b = 0 ∨ σ 18 b ≠ 0) then σ 17 b else 0), σ) := by
  have q : (nI b).toInt = (b : Int) := i_nI (by omega)
  have qb : (nI b).toNatClampNeg = b := nI_clamp (by omega)
  have k0 : f_X0_has σ (nI b) = if σ 25 b = 0 then some ((0 : Int32), σ) else some ((1 : Int32), σ) := by
    rw [f_X0_has, if_neg (by rw [Int32.lt_iff_toInt_lt, i_0]; omega), if_neg (by rw [Int32.le_iff_toInt_le, i_40]; omega), if_pos (nI_in hb (by omega)), qb]
  have k1 : ∀ r1, f_X3_kindAt σ (nI b) x r1 = if σ 16 b = x then (if r1 = 0 then some (σ 17 b, σ) else if σ 18 b = 0 then some ((0 : Int32), σ) else some (σ 17 b, σ)) else some ((0 : Int32), σ) := fun r1 => by
    rw [f_X3_kindAt, if_neg (by rw [Int32.lt_iff_toInt_lt, i_0]; omega), if_neg (by rw [Int32.le_iff_toInt_le, i_40]; omega), if_pos (nI_in hb (by omega)), qb]
  by_cases c : σ 25 b = 0
  · refine ⟨0, by rw [k0, if_pos c], by simp [c], ?_⟩
    rw [k1]
    by_cases c2 : σ 16 b = x
    · rw [if_pos c2, if_pos rfl, if_pos ⟨c2, Or.inl c⟩]
    · rw [if_neg c2, if_neg (fun q => c2 q.1)]
  · refine ⟨1, by rw [k0, if_neg c], ⟨fun q => absurd q (by decide), fun q => absurd q c⟩, ?_⟩
    rw [k1]
    by_cases c2 : σ 16 b = x
    · rw [if_pos c2, if_neg (by decide)]
      by_cases c3 : σ 18 b = 0
      · rw [if_pos c3, if_neg (fun q => by rcases q.2 with q | q; exact c q; exact q c3)]
      · rw [if_neg c3, if_pos ⟨c2, Or.inr c3⟩]
    · rw [if_neg c2, if_neg (fun q => c2 q.1)]
