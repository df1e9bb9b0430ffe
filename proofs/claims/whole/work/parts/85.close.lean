/-! ===== close ===== -/
theorem end_C {σ : pt_St} {t : Nat} (ht : t < 6) : ∃ σE, f_X8_end σ (nI t) = some σE ∧ (∀ c, c ≠ 9 + t → σE c = σ c) ∧ σE (9 + t) 0 = σ (9 + t) 0 ∧ σE (9 + t) 1 = 4 ∧ σE (9 + t) 2 = -1 ∧ σE (9 + t) 3 = -1 ∧ σE (9 + t) 5 = σ (9 + t) 5 ∧ σE (9 + t) 6 = σ (9 + t) 6 + 1 ∧ σE (9 + t) 7 = σ (9 + t) 7 := by
  have qt : (nI t).toNatClampNeg = t := nI_clamp (by omega)
  refine ⟨_, by rw [f_X8_end, f_X8_becomeFree, qt, pt_doe, pt_doe, pt_doe, pt_doe, pt_b1e, pt_doe, pt_doe], fun c hc => by simp (disch := omega) only [pt_ne], ?_, ?_, ?_, ?_, ?_, ?_, ?_⟩ <;> simp (disch := omega) only [pt_nj, pt_eq]
theorem ends_R {τ : pt_St} {t : Nat} (ht : t < 6) : ∃ τE, f_X10_ends τ (nI t) = some τE ∧ (∀ k, k ≠ 8 → k ≠ 9 → k ≠ 12 → τE k = τ k) ∧ (∀ k j, j ≠ t → τE k j = τ k j) ∧ τE 8 t = 4 ∧ τE 9 t = -1 ∧ τE 12 t = τ 12 t + 1 := by
  have qt : (nI t).toNatClampNeg = t := nI_clamp (by omega)
  refine ⟨_, by rw [f_X10_ends, if_pos (nI_in ht (by omega)), qt, pt_doe, pt_doe, pt_doe], fun k k8 k9 k12 => by simp (disch := omega) only [pt_ne], fun k j hj => by rw [pt_njk hj, pt_njk hj, pt_njk hj], ?_, ?_, ?_⟩ <;> simp (disch := omega) only [pt_ne, pt_eq]
/-- the first i threads have ended -/
def cl_I (σ τ σ' τ' : pt_St) (i : Nat) : Prop :=
  (∀ c, c ≠ 6 → c < 9 ∨ 14 < c → σ' c = σ c) ∧ σ' 6 1 = 0 ∧ σ' 6 2 = τ' 0 31 ∧ (∀ u, u < 6 → i ≤ u → σ' (9 + u) = σ (9 + u) ∧ τ' 8 u = τ 8 u ∧ τ' 9 u = τ 9 u ∧ τ' 12 u = τ 12 u) ∧ (∀ k, k ≠ 0 → k ≠ 8 → k ≠ 9 → k ≠ 12 → τ' k = τ k) ∧ (∀ j, j ≠ 31 → j ≠ 33 → τ' 0 j = τ 0 j) ∧ τ' 0 33 = 0 ∧
  (∀ u, u < 6 → u < i → τ' 8 u = 4 ∧ τ' 9 u = -1 ∧ σ' (9 + u) 1 = 4 ∧ σ' (9 + u) 2 = -1 ∧ σ' (9 + u) 3 = -1 ∧ σ' (9 + u) 0 = nI u ∧ σ' (9 + u) 5 = τ' 11 u ∧ σ' (9 + u) 6 = τ' 12 u ∧ σ' (9 + u) 7 = τ' 13 u) ∧ 0 ≤ (τ' 0 31).toInt ∧ (τ' 0 31).toInt + rl_sum τ' 6 = (τ 0 4).toInt
set_option maxHeartbeats 4000000 in
theorem cl_end {σ τ σ' τ' : pt_St} {i : Nat} {v : Int32} (h : rl_R σ τ) (hi : i < 6) (H : cl_I σ τ σ' τ' i) (v0 : 0 ≤ v.toInt) (v1 : ∀ τ2 : pt_St, τ2 0 1 = τ' 0 1 → τ2 0 2 = τ' 0 2 → (∀ u, u ≠ i → τ2 8 u = τ' 8 u ∧ τ2 9 u = τ' 9 u) → τ2 8 i = 4 → v.toInt + rl_sum τ2 6 = (τ 0 4).toInt) : ∃ σ2 τ2, f_X8_end (pt_put σ' 6 2 v) (nI i) = some σ2 ∧ f_X10_ends (pt_put τ' 0 31 v) (nI i) = some τ2 ∧ cl_I σ τ σ2 τ2 (i + 1) := by
  obtain ⟨x1, x2, x3, x4, x5, x6, x7, x8, x9, x10⟩ := H
  obtain ⟨σ2, a1, a2, a3, a4, a5, a6, a7, a8, a9⟩ := end_C (σ := pt_put σ' 6 2 v) hi
  obtain ⟨τ2, b1, b2, b3, b4, b5, b6⟩ := ends_R (τ := pt_put τ' 0 31 v) hi
  obtain ⟨z1, z2, z3, z4⟩ := x4 i hi (Nat.le_refl i)
  obtain ⟨g0, g1, g2, g3, g4, g5⟩ := h.2.2.1.2.2.2.2.2.2.2.2.2.2.2.2.2.2.2.2.2 i hi
  rw [pt_ne (by omega), z1] at a3 a7 a8 a9
  rw [pt_ne (by omega)] at b6
  have t20 : ∀ j, j ≠ 31 → τ2 0 j = τ' 0 j := fun j hj => by rw [b2 0 (by omega) (by omega) (by omega), pt_nj hj]
  have t231 : τ2 0 31 = v := by rw [b2 0 (by omega) (by omega) (by omega), pt_eq]
  refine ⟨σ2, τ2, a1, b1, fun c c6 c9 => ?_, ?_, ?_, fun u hu hge => ?_, fun k k0 k8 k9 k12 => ?_, fun j j31 j33 => ?_, ?_, fun u hu hlt => ?_, ?_, ?_⟩
  · rw [a2 c (by omega), pt_ne c6, x1 c c6 c9]
  · rw [a2 6 (by omega), pt_nj (by omega), x2]
  · rw [a2 6 (by omega), pt_eq, t231]
  · obtain ⟨y1, y2, y3, y4⟩ := x4 u hu (by omega)
    rw [a2 (9 + u) (by omega), pt_ne (by omega), b3 8 u (by omega), b3 9 u (by omega), b3 12 u (by omega)]
    simp (disch := omega) only [pt_ne]
    exact ⟨y1, y2, y3, y4⟩
  · rw [b2 k k8 k9 k12, pt_ne k0, x5 k k0 k8 k9 k12]
  · rw [t20 j j31, x6 j j31 j33]
  · rw [t20 33 (by omega), x7]
  · rw [b2 11 (by omega) (by omega) (by omega), b2 13 (by omega) (by omega) (by omega), pt_ne (by omega), pt_ne (by omega)]
    by_cases c : u = i
    · subst c
      rw [x5 11 (by omega) (by omega) (by omega) (by omega), x5 13 (by omega) (by omega) (by omega) (by omega), b6, z4]
      exact ⟨b4, b5, a4, a5, a6, by rw [a3, g0], by rw [a7, g3], by rw [a8, g4], by rw [a9, g5]⟩
    · rw [b3 8 u c, b3 9 u c, b3 12 u c, a2 (9 + u) (by omega)]
      simp (disch := omega) only [pt_ne]
      exact x8 u hu (by omega)
  · rw [t231]; exact v0
  · rw [t231]
    refine v1 τ2 (t20 1 (by omega)) (t20 2 (by omega)) (fun u hu => ?_) b4
    rw [b3 8 u hu, b3 9 u hu]
    simp (disch := omega) only [pt_ne]
    exact ⟨trivial, trivial⟩
set_option maxHeartbeats 4000000 in
theorem close_lp {σ τ : pt_St} {th : Nat} (h : rl_R σ τ) (hb : τ 0 14 = 1) (hth : τ 0 15 = nI th) (hth6 : th ≤ 6) : ∀ (d i n nR : Nat) (x1 : Int32) (σ' τ' : pt_St), i + d = th → d < n → d < nR → cl_I σ τ σ' τ' i → ∃ r σ2 τ2, lp_X6_endAll_12 kx_X6_endAll_12 n σ' x1 (nI i) = some (r, σ2) ∧ lp_X10_close_19 kx_X10_close_19 nR τ' x1 (nI i) = some (r, τ2) ∧ cl_I σ τ σ2 τ2 th := by
  obtain ⟨hA, hB, hE, hP, hI⟩ := id h
  obtain ⟨i1, i2, i3, i4, i5, i6, i7, i8, i9, i10, i11, i12, i13, i14⟩ := id (hI hb)
  have g1 := hE.1
  have g18 := hE.2.2.2.2.2.2.2.2.2.2.2.2.2.2.2.2.2
  have qth : (nI th).toInt = (th : Int) := i_nI (by omega)
  intro d
  induction d with
  | zero =>
    intro i n nR x1 σ' τ' hi hn hnR H
    obtain ⟨n, rfl⟩ : ∃ z, n = z + 1 := ⟨n - 1, by omega⟩
    obtain ⟨nR, rfl⟩ : ∃ z, nR = z + 1 := ⟨nR - 1, by omega⟩
    have q : (nI i).toInt = (i : Int) := i_nI (by omega)
    have e : i = th := by omega
    obtain ⟨y1, y2, y3, y4, y5, y6, -⟩ := id H
    refine ⟨x1, σ', τ', ?_, ?_, by rw [← e]; exact H⟩
    · rw [lp_X6_endAll_12, y1 5 (by omega) (by omega), g1, hth, if_pos (by rw [Int32.le_iff_toInt_le]; omega), kx_X6_endAll_12]
    · rw [lp_X10_close_19, y6 15 (by omega) (by omega), hth, if_pos (by rw [Int32.le_iff_toInt_le]; omega), kx_X10_close_19]
  | succ d ih =>
    intro i n nR x1 σ' τ' hi hn hnR H
    obtain ⟨n, rfl⟩ : ∃ z, n = z + 1 := ⟨n - 1, by omega⟩
    obtain ⟨nR, rfl⟩ : ∃ z, nR = z + 1 := ⟨nR - 1, by omega⟩
    have q : (nI i).toInt = (i : Int) := i_nI (by omega)
    have qc : (nI i).toNatClampNeg = i := nI_clamp (by omega)
    have hi6 : i < 6 := by omega
    obtain ⟨y1, y2, y3, y4, y5, y6, y7, y8, y9, y10⟩ := id H
    obtain ⟨z1, z2, z3, z4⟩ := y4 i hi6 (Nat.le_refl i)
    obtain ⟨k0, k1, k2, k3, k4, k5⟩ := g18 i hi6
    obtain ⟨t1, t2, t3, t4, t5, t6, t7, t8, t9⟩ := i8 i hi6
    have C : lp_X6_endAll_12 kx_X6_endAll_12 (n + 1) σ' x1 (nI i) = (if τ 8 i = 2 then pt_b1 (f_X1_giveBack σ' (σ (9 + i) 4)) fun σ13005 => if σ13005 (9 + i) 1 = 4 then lp_X6_endAll_12 kx_X6_endAll_12 n σ13005 x1 (nI (i + 1)) else pt_b1 (f_X8_end σ13005 (nI i)) fun σ13007 => lp_X6_endAll_12 kx_X6_endAll_12 n σ13007 (x1 + 1) (nI (i + 1)) else if τ 8 i = 4 then lp_X6_endAll_12 kx_X6_endAll_12 n σ' x1 (nI (i + 1)) else pt_b1 (f_X8_end σ' (nI i)) fun σ13009 => lp_X6_endAll_12 kx_X6_endAll_12 n σ13009 (x1 + 1) (nI (i + 1))) := by
      rw [lp_X6_endAll_12, y1 5 (by omega) (by omega), g1, hth, if_neg (by rw [Int32.le_iff_toInt_le]; omega), if_neg (by rw [Int32.le_iff_toInt_le, i_6]; omega), if_pos (nI_in (by omega) (by omega)), qc, z1, k1, nI_1]
    have R : lp_X10_close_19 kx_X10_close_19 (nR + 1) τ' x1 (nI i) = (if τ 8 i = 4 then lp_X10_close_19 kx_X10_close_19 nR τ' x1 (nI (i + 1)) else if τ 8 i = 2 then pt_b2 (f_X10_lengthOf τ' (τ 9 i)) fun r20005 σ20005 => pt_do (pt_put σ20005 0 31 (τ' 0 31 + r20005)) fun σ20006 => pt_b1 (f_X10_ends σ20006 (nI i)) fun σ20007 => lp_X10_close_19 kx_X10_close_19 nR σ20007 (x1 + 1) (nI (i + 1)) else pt_do (pt_put τ' 0 31 (τ' 0 31 + 0)) fun σ20008 => pt_b1 (f_X10_ends σ20008 (nI i)) fun σ20009 => lp_X10_close_19 kx_X10_close_19 nR σ20009 (x1 + 1) (nI (i + 1))) := by
      rw [lp_X10_close_19, y6 15 (by omega) (by omega), hth, if_neg (by rw [Int32.le_iff_toInt_le]; omega), if_pos (nI_in (by omega) (by omega)), qc, z2, z3, nI_1]
    rw [C, R]
    by_cases c4 : τ 8 i = 4
    · obtain ⟨r, σ2, τ2, w1, w2, w3⟩ := ih (i + 1) n nR x1 σ' τ' (by omega) (by omega) (by omega) ⟨y1, y2, y3, fun u hu hge => y4 u hu (by omega), y5, y6, y7, fun u hu hlt => by
        by_cases c : u = i
        · subst c
          rw [z1, z2, z3, z4, y5 11 (by omega) (by omega) (by omega) (by omega), y5 13 (by omega) (by omega) (by omega) (by omega)]
          have e9 := t3 (Or.inr c4)
          exact ⟨c4, e9, by rw [k1, c4], by rw [k2, e9], t6 (by rw [c4]; decide), k0, k3, k4, k5⟩
        · exact y8 u hu (by omega), y9, y10⟩
      refine ⟨r, σ2, τ2, ?_, ?_, w3⟩
      · rw [if_neg (by rw [c4]; decide), if_pos c4]; exact w1
      · rw [if_pos c4]; exact w2
    · by_cases c2 : τ 8 i = 2
      · have hblk := t4 (Or.inr (Or.inl c2))
        obtain ⟨L, v1, v2, v3, v4, -⟩ := len_ok hA hB (x := τ 9 i) hblk.1 (by omega)
        have h4 : σ (9 + i) 4 = nI L := by rw [i_eq, t7 (Or.inr c2), v3, i_nI (by omega)]
        have v4' := len_fr (τ' := τ') (y6 1 (by omega) (by omega)) (y6 2 (by omega) (by omega)) v4
        have hl' := fun b => rl_len_fr (y6 1 (by omega) (by omega)) (y6 2 (by omega) (by omega)) b
        have hnn : 0 ≤ rl_sum τ' 6 := sum_nn 6 (fun u hu q8 => by
          by_cases c : u < i
          · rw [(y8 u hu c).1] at q8; exact absurd q8 (by decide)
          · obtain ⟨-, a2, a3, -⟩ := y4 u hu (by omega)
            rw [a2] at q8
            rw [a3, hl']
            have ub := (i8 u hu).2.2.2.1 (Or.inr (Or.inl q8))
            obtain ⟨Lu, -, -, v3u, -⟩ := len_ok hA hB (x := τ 9 u) ub.1 (by omega)
            omega)
        have hB4 : (τ 0 4).toInt ≤ 200 := hB.2.2.2.2.2.2.2.1
        have qL : (nI L).toInt = (L : Int) := i_nI (by omega)
        obtain ⟨v, hv⟩ : ∃ v, v = τ' 0 31 + nI L := ⟨_, rfl⟩
        have hv2 : v.toInt = (τ' 0 31).toInt + (L : Int) := by rw [hv, i_add (by rw [qL]; omega), qL]
        obtain ⟨σ2, τ2, w1, w2, w3⟩ := cl_end (v := v) h hi6 H (by omega) (fun τ2 a1 a2 a3 a4 => by
          have hs := sum_gb (τ := τ') (τ' := τ2) (G := fun _ => false) (L := fun _ => L) (t := i) rfl (by rw [z2]; exact c2) (by rw [a4]; decide) (by rw [z3, hl', v3]) 6 (fun u _ _ hG => absurd hG (by simp)) (fun u _ hut _ => by
            rw [(a3 u hut).1, (a3 u hut).2, rl_len_fr a1 a2]
            exact ⟨Iff.rfl, rfl⟩)
          rw [if_pos hi6, gs_no] at hs
          omega)
        have hgb : f_X1_giveBack σ' (nI L) = some (pt_put σ' 6 2 v) := by
          rw [f_X1_giveBack, pt_doe, y3, ← hv, pt_nj (by omega), y2, show pt_F = 999 + 1 from rfl, lp_X1_giveBack_15, if_pos (by decide), kx_X1_giveBack_15]
        obtain ⟨r, σ3, τ3, x5, x6, x7⟩ := ih (i + 1) n nR (x1 + 1) σ2 τ2 (by omega) (by omega) (by omega) w3
        refine ⟨r, σ3, τ3, ?_, ?_, x7⟩
        · rw [if_pos c2, h4, hgb, pt_b1e, pt_ne (by omega), z1, k1, if_neg c4, w1, pt_b1e]; exact x5
        · rw [if_neg c4, if_pos c2, v4', pt_b2e, ← hv, pt_doe, w2, pt_b1e]; exact x6
      · obtain ⟨σ2, τ2, w1, w2, w3⟩ := cl_end (v := τ' 0 31) h hi6 H y9 (fun τ2 a1 a2 a3 a4 => by
          rw [sum_fr a1 a2 6 (fun u hu => ?_)]
          · exact y10
          · by_cases c : u = i
            · subst c
              rw [a4, z2]
              exact ⟨⟨fun q => absurd q (by decide), fun q => absurd q c2⟩, fun q => absurd q c2⟩
            · rw [(a3 u c).1, (a3 u c).2]
              exact ⟨Iff.rfl, fun _ => rfl⟩)
        rw [pt_same y3] at w1
        rw [pt_same rfl] at w2
        obtain ⟨r, σ3, τ3, x5, x6, x7⟩ := ih (i + 1) n nR (x1 + 1) σ2 τ2 (by omega) (by omega) (by omega) w3
        refine ⟨r, σ3, τ3, ?_, ?_, x7⟩
        · rw [if_neg c2, if_neg c4, w1, pt_b1e]; exact x5
        · rw [if_neg c4, if_neg c2, Int32.add_zero, pt_same rfl, pt_doe, w2, pt_b1e]; exact x6
set_option maxHeartbeats 4000000 in
theorem sm_close {σ τ : pt_St} (h : rl_R σ τ) : ∃ (r : Int32) (σ' τ' : pt_St), f_X9_close σ = some (r, σ') ∧ f_X10_close τ = some (r, τ') ∧ rl_R σ' τ' := by
  obtain ⟨hA, hB, hE, hP, hI⟩ := id h
  obtain ⟨e1, e2, e3, e4, e5, e6, e7, e8, e9, e10, e11⟩ := id hA
  obtain ⟨b1, b2, b3, b4, b5, b6, b7, b8, b9, b10, b11, b12, b13, b14⟩ := id hB
  obtain ⟨g1, g2, g3, g4, g5, g6, g7, g8, g9, g10, g11, g12, g13, g14, g15, g16, g17, g18⟩ := id hE
  rcases rl_bg hB with hb | hb
  · exact ⟨-3, σ, τ, by rw [f_X9_close, e10, hb, if_pos rfl], by rw [f_X10_close, hb, if_pos rfl], h⟩
  · obtain ⟨i1, i2, i3, i4, i5, i6, i7, i8, i9, i10, i11, i12, i13, i14⟩ := id (hI hb)
    obtain ⟨th, hthd⟩ : ∃ th, th = (τ 0 15).toInt.toNat := ⟨_, rfl⟩
    have hth : τ 0 15 = nI th := by rw [hthd]; exact i_of (by omega)
    obtain ⟨r, σ', τ', w1, w2, w3⟩ := close_lp h hb hth (by omega) th 0 pt_F pt_F 0 (pt_put σ 6 1 0) (pt_put τ 0 33 0) (by omega) (by unfold pt_F; omega) (by unfold pt_F; omega) (by
      refine ⟨fun c c6 c9 => pt_ne c6, pt_eq, by rw [pt_nj (by omega), pt_nj (by omega)]; exact g9, fun u hu _ => ⟨pt_ne (by omega), by rw [pt_ne (by omega)], by rw [pt_ne (by omega)], by rw [pt_ne (by omega)]⟩, fun k k0 _ _ _ => pt_ne k0, fun j j31 j33 => pt_nj j33, pt_eq, fun u hu hlt => absurd hlt (by omega), by rw [pt_nj (by omega)]; exact i12.1, ?_⟩
      rw [pt_nj (by omega), sum_fr (τ := τ) (by rw [pt_nj (by omega)]) (by rw [pt_nj (by omega)]) 6 (fun u _ => by rw [pt_ne (by omega), pt_ne (by omega)]; exact ⟨Iff.rfl, fun _ => rfl⟩)]
      exact i12.2)
    have z0 : nI 0 = (0 : Int32) := by decide
    rw [z0] at w1 w2
    have w1' : f_X6_endAll σ = some (r, σ') := by rw [f_X6_endAll, pt_doe, w1]
    obtain ⟨x1, x2, x3, x4, x5, x6, x7, x8, x9, x10⟩ := id w3
    refine ⟨r, σ', τ', by rw [f_X9_close, e10, hb, if_neg (by decide), w1', pt_b2e], by rw [f_X10_close, hb, if_neg (by decide), pt_doe, w2], ?_⟩
    have hno : ∀ u, u < 6 → τ' 8 u = 4 ∨ (τ' 8 u = 0 ∧ th ≤ u) := fun u hu => by
      by_cases c : u < th
      · exact Or.inl (x8 u hu c).1
      · obtain ⟨-, a2, -⟩ := x4 u hu (by omega)
        exact Or.inr ⟨by rw [a2]; exact (i8 u hu).2.1 (by omega), by omega⟩
    have hno2 : ∀ u, u < 6 → τ' 8 u ≠ 1 ∧ τ' 8 u ≠ 2 := fun u hu => by
      rcases hno u hu with q | ⟨q, -⟩ <;> rw [q] <;> exact ⟨by decide, by decide⟩
    have a0 : ∀ j, j ≠ 31 → j ≠ 33 → τ' 0 j = τ 0 j := x6
    refine ⟨rl_A_fr hA (fun k hk2 => x1 k (by omega) (by omega)) (by rw [x1 4 (by omega) (by omega)]) (fun j hj2 => a0 j (by omega) (by omega)) (fun k k1 k2 => x5 k (by omega) (by omega) (by omega) (by omega)), rl_B_fr hB (fun j hj2 => a0 j (by omega) (by omega)) (x5 2 (by omega) (by omega) (by omega) (by omega)), ?_, fun q => rl_P_fr (hP (by rw [← a0 9 (by omega) (by omega)]; exact q)) (by rw [x1 4 (by omega) (by omega)]) (by rw [x1 4 (by omega) (by omega)]) (x1 19 (by omega) (by omega)) (fun j hj2 => a0 j (by omega) (by omega)) (fun k hk2 => x5 k (by omega) (by omega) (by omega) (by omega)), fun _ => ?_⟩
    · unfold rl_E
      rw [x1 5 (by omega) (by omega), x1 7 (by omega) (by omega), x1 8 (by omega) (by omega), x1 24 (by omega) (by omega), x1 25 (by omega) (by omega), x1 26 (by omega) (by omega), x1 20 (by omega) (by omega), x1 21 (by omega) (by omega), a0 15 (by omega) (by omega), a0 23 (by omega) (by omega), a0 24 (by omega) (by omega), a0 34 (by omega) (by omega), a0 35 (by omega) (by omega), a0 36 (by omega) (by omega), a0 37 (by omega) (by omega), a0 29 (by omega) (by omega), a0 30 (by omega) (by omega), a0 27 (by omega) (by omega), x5 14 (by omega) (by omega) (by omega) (by omega), x5 15 (by omega) (by omega) (by omega) (by omega), x5 16 (by omega) (by omega) (by omega) (by omega), x5 6 (by omega) (by omega) (by omega) (by omega), x5 7 (by omega) (by omega) (by omega) (by omega)]
      refine ⟨g1, g2, g3, g4, g5, g6, g7, by rw [x2, x7], x3, g10, g11, g12, g13, g14, g15, g16, g17, fun u hu => ?_⟩
      by_cases c : u < th
      · obtain ⟨v1, v2, v3, v4, v5, v6, v7, v8, v9⟩ := x8 u hu c
        exact ⟨v6, by rw [v1, v3], by rw [v2, v4], v7, v8, v9⟩
      · obtain ⟨v1, v2, v3, v4⟩ := x4 u hu (by omega)
        rw [v1, v2, v3, v4, x5 11 (by omega) (by omega) (by omega) (by omega), x5 13 (by omega) (by omega) (by omega) (by omega)]
        exact g18 u hu
    · have e1' := a0 1 (by omega) (by omega)
      have e2' := a0 2 (by omega) (by omega)
      have hm := rl_many_fr e1' e2'
      have hl := fun b => rl_len_fr e1' e2' b
      have nw : ∀ u, u < 6 → ¬ (τ' 8 u = 1 ∨ τ' 8 u = 2) := fun u hu q => by
        rcases q with q | q
        · exact (hno2 u hu).1 q
        · exact (hno2 u hu).2 q
      refine ⟨by rw [a0 15 (by omega) (by omega)]; exact i1, by rw [a0 16 (by omega) (by omega), hm]; exact i2, by rw [x1 7 (by omega) (by omega), a0 5 (by omega) (by omega)]; exact i3, by rw [a0 23 (by omega) (by omega), a0 15 (by omega) (by omega)]; exact i4, by rw [a0 24 (by omega) (by omega), a0 16 (by omega) (by omega)]; exact i5, by rw [a0 30 (by omega) (by omega), a0 16 (by omega) (by omega)]; exact i6, by rw [a0 27 (by omega) (by omega), a0 24 (by omega) (by omega), x5 14 (by omega) (by omega) (by omega) (by omega), x5 15 (by omega) (by omega) (by omega) (by omega)]; exact i7, fun u hu => ?_, ⟨by rw [x7, i_0]; omega, fun u hu q => absurd q (hno2 u hu).1, fun i hi => absurd hi (by rw [x7, i_0]; omega), fun i j hi => absurd hi (by rw [x7, i_0]; omega)⟩, by rw [x7, i_0]; intro q; exact absurd q (by omega), ?_, by rw [a0 4 (by omega) (by omega)]; exact ⟨x9, x10⟩, by rw [a0 16 (by omega) (by omega), x5 16 (by omega) (by omega) (by omega) (by omega)]; exact i13, ⟨fun u hu q => absurd q (nw u hu), fun u v hu _ _ q => absurd q (nw u hu)⟩⟩
      · unfold rl_T
        have n9 : τ' 9 u = -1 := by
          by_cases c : u < th
          · exact (x8 u hu c).2.1
          · obtain ⟨-, -, v3, -⟩ := x4 u hu (by omega)
            rw [v3]; exact (i8 u hu).2.2.1 (Or.inl ((i8 u hu).2.1 (by omega)))
        have n3 : σ' (9 + u) 3 = -1 := by
          by_cases c : u < th
          · exact (x8 u hu c).2.2.2.2.1
          · obtain ⟨v1, -⟩ := x4 u hu (by omega)
            rw [v1]; exact (i8 u hu).2.2.2.2.2.1 (by rw [(i8 u hu).2.1 (by omega)]; decide)
        refine ⟨?_, fun q => ?_, fun _ => n9, fun q => ?_, fun q => absurd q (hno2 u hu).2, fun _ => n3, fun q => absurd q (nw u hu), fun q => absurd q (hno2 u hu).1, fun q => absurd q (hno2 u hu).2⟩
        · rcases hno u hu with q | ⟨q, -⟩ <;> rw [q] <;> decide
        · rw [a0 15 (by omega) (by omega)] at q
          obtain ⟨-, v2, -⟩ := x4 u hu (by omega)
          rw [v2]; exact (i8 u hu).2.1 q
        · rcases hno u hu with p | ⟨p, -⟩ <;> rw [p] at q <;> rcases q with q | q | q <;> exact absurd q (by decide)
      · rw [a0 34 (by omega) (by omega), a0 35 (by omega) (by omega)]
        rcases i11 with q | ⟨q1, q2, -⟩
        · exact Or.inl q
        · exact Or.inr ⟨q1, q2, hno2⟩
