/-- class and reference in the midst of a block: P bytes are laid on both sides, the class has laid a run of r bytes ahead -/
def pk_J (σ0 τ0 σ τ : pt_St) (b P r p st : Nat) : Prop :=
  (∀ c, c ≠ 4 → c ≠ 19 → σ c = σ0 c) ∧ (∀ j, j ≠ 5 → j ≠ 7 → σ 4 j = σ0 4 j) ∧ σ 4 5 = nI (P + rr_ r) ∧ σ 4 7 = (if r = 0 then -1 else nI P) ∧ (∀ i, i < P → σ 19 i = τ 5 i) ∧ (0 < r → σ 19 P = nI r ∧ ∀ i, i < r → σ 19 (P + 1 + i) = τ0 1 (p - r + i)) ∧
  (∀ c, c ≠ 0 → c ≠ 5 → c ≠ 7 → τ c = τ0 c) ∧ (∀ j, j ≠ 10 → τ 0 j = τ0 0 j) ∧ (∀ j, j ≠ b → τ 7 j = τ0 7 j) ∧ τ 0 10 = nI P ∧ τ 7 b = nI st
set_option maxHeartbeats 4000000 in
theorem pj_loop {σ0 τ0 : pt_St} {s w b e fr B : Nat} (hs : σ0 1 1 = nI s) (h2 : s ≤ 160) (he : e ≤ s) (hw : σ0 2 1 = nI w) (hw' : τ0 0 3 = nI w) (hw2 : w ≤ 64) (ht : σ0 15 = τ0 1) (hb : b < 40) (hB : B + (e - fr) + 1 < 240) {kC : pt_St → Int32 → Int32 → Option (Int32 × pt_St)} {kR : pt_St → Int32 → Int32 → Int32 → Option pt_St} {a1 : Int32} :
    ∀ (m p P r st n nR : Nat) (σ τ : pt_St), e - p = m → p ≤ e → fr + r ≤ p → P + rr_ r ≤ B + (p - fr) + (if r = 0 then 0 else 1) → st ≤ p - fr → pk_J σ0 τ0 σ τ b P r p st → m < n → m < nR →
    ∃ (σ' τ' : pt_St) (P' r' st' : Nat), lp_X2_packBytes_10 kC a1 (nI e) n σ (nI st) (nI p) = kC σ' (nI st') (nI e) ∧ lp_X10_packOne_25 kR (nI b) nR τ (nI p) (nI e) (nI (p - r)) = kR τ' (nI e) (nI e) (nI (e - r')) ∧ pk_J σ0 τ0 σ' τ' b P' r' e st' ∧ fr + r' ≤ e ∧ P' + rr_ r' ≤ B + (e - fr) + (if r' = 0 then 0 else 1) ∧ st' ≤ e - fr ∧ (st ≤ st' ∧ (p < e → st < st')) ∧ P ≤ P' := by
  intro m
  induction m using Nat.strongRecOn with
  | _ m ih =>
  intro p P r st n nR σ τ hm hp hr hPB hst hJ hn hnR
  obtain ⟨n, rfl⟩ : ∃ z, n = z + 1 := ⟨n - 1, by omega⟩
  obtain ⟨nR, rfl⟩ : ∃ z, nR = z + 1 := ⟨nR - 1, by omega⟩
  have qp : (nI p).toInt = (p : Int) := i_nI (by omega)
  have qe : (nI e).toInt = (e : Int) := i_nI (by omega)
  by_cases hpe : p = e
  · subst hpe
    refine ⟨σ, τ, P, r, st, ?_, ?_, hJ, hr, hPB, hst, ⟨Nat.le_refl st, fun h => absurd h (by omega)⟩, Nat.le_refl P⟩
    · rw [lp_X2_packBytes_10, if_pos (by rw [Int32.le_iff_toInt_le]; omega)]
    · rw [lp_X10_packOne_25, if_pos (by rw [Int32.le_iff_toInt_le]; omega)]
  · obtain ⟨j1, j2, j3, j4, j5, j6, j7, j8, j9, j10, j11⟩ := id hJ
    have hs' : σ 1 1 = nI s := by rw [j1 1 (by omega) (by omega), hs]
    have hw1 : σ 2 1 = nI w := by rw [j1 2 (by omega) (by omega), hw]
    have ht1 : σ 15 = τ0 1 := by rw [j1 15 (by omega) (by omega), ht]
    have ht2 : τ 1 = τ0 1 := j7 1 (by omega) (by omega) (by omega)
    have hw3 : τ 0 3 = nI w := by rw [j8 3 (by omega), hw']
    have hC := best_fC hs' h2 he (show p < e by omega) hw1 hw2
    rw [ht1] at hC
    have hR := fun (k1 : pt_St → Int32 → Int32 → Int32 → Option pt_St) => best_R (k1 := k1) (a1 := nI b) (x4 := nI (p - r)) (show e ≤ 160 by omega) (show p < e by omega) hw3 hw2 (min w p) 0 pt_F (by omega) (by unfold pt_F; omega)
    rw [ht2] at hR
    have hle : ∀ d, al_ (τ0 1) d (e - p) p ≤ e - p := fun d => al_le _ _ _ _
    generalize hg : (fun d => al_ (τ0 1) d (e - p) p) = g at hC hR
    have hgd : ∀ d, al_ (τ0 1) d (e - p) p = g d := fun d => by rw [← hg]
    rw [show nI (mx_ 0 g 0).1 = (0 : Int32) from rfl, show nI (mx_ 0 g 0).2 = (0 : Int32) from rfl, show nI (0 + 1) = (1 : Int32) from rfl] at hR
    obtain ⟨z1, z2, z3⟩ := mx_at 0 g (min w p)
    obtain ⟨y1, y2⟩ := mx_02 g (min w p)
    have hbc : (nI b).toNatClampNeg = b := nI_clamp (by omega)
    have etok : τ 7 b + 1 = nI (st + 1) := by rw [j11, nI_1]
    have hM : (mx_ 0 g (min w p)).1 ≤ e - p := by
      rcases z3 with z3 | ⟨-, z3, -⟩
      · rw [z3]; exact Nat.zero_le _
      · rw [← z3, ← hgd]; exact hle _
    have q5 : (nI (mx_ 0 g (min w p)).1).toInt = ((mx_ 0 g (min w p)).1 : Int) := i_nI (by omega)
    have Rhead : lp_X10_packOne_25 kR (nI b) (nR + 1) τ (nI p) (nI e) (nI (p - r)) = (if nI (mx_ 0 g (min w p)).1 < (3 : Int32) then lp_X10_packOne_25 kR (nI b) nR (pt_put τ 7 b (nI (st + 1))) (nI p + 1) (nI e) (nI (p - r)) else pt_b1 (f_X10_plainTo (pt_put τ 7 b (nI (st + 1))) (nI (p - r)) (nI p)) fun σ14 => pt_b1 (f_X10_lay σ14 ((125 : Int32) + nI (mx_ 0 g (min w p)).1)) fun σ15 => pt_b1 (f_X10_lay σ15 (nI (mx_ 0 g (min w p)).2 - 1)) fun σ16 => lp_X10_packOne_25 kR (nI b) nR σ16 (nI p + nI (mx_ 0 g (min w p)).1) (nI e) (nI p + nI (mx_ 0 g (min w p)).1)) := by
      rw [lp_X10_packOne_25, if_neg (by rw [Int32.le_iff_toInt_le]; omega), hR, if_pos (nI_in hb (by omega)), hbc, pt_doe, etok]
    rw [Rhead]
    by_cases c : (mx_ 0 g (min w p)).1 ≤ 2
    · -- a byte
      have y1 := y1 c
      rw [y1] at hC
      have e2 : (p + 1) - (r + 1) = p - r := by omega
      have hT : pk_J σ0 τ0 σ (pt_put τ 7 b (nI (st + 1))) b P r p (st + 1) := by
        refine ⟨j1, j2, j3, j4, fun i hi => by rw [pt_ne (by omega)]; exact j5 i hi, j6, fun c c0 c5 c7 => by rw [pt_ne c7]; exact j7 c c0 c5 c7, fun j hj => by rw [pt_ne (by omega)]; exact j8 j hj, fun j hj => by rw [pt_nj hj]; exact j9 j hj, by rw [pt_ne (by omega)]; exact j10, pt_eq⟩
      have key : ∃ σ1, f_X2_putByte σ (σ 15 p) = some σ1 ∧ pk_J σ0 τ0 σ1 (pt_put τ 7 b (nI (st + 1))) b P (r + 1) (p + 1) (st + 1) := by
        obtain ⟨-, -, -, -, t5, -, t7, t8, t9, t10, t11⟩ := hT
        by_cases hr0 : r = 0
        · subst hr0
          rw [if_pos rfl] at j4 hPB
          have j3 : σ 4 5 = nI P := j3
          have hPB : P + 0 ≤ B + (p - fr) + 0 := hPB
          obtain ⟨σ1, u1, u2, u3, u4, u5, u6, u7, u8⟩ := byte_new (σ 15 p) j3 j4 (by omega)
          refine ⟨σ1, u1, fun c c4 c19 => by rw [u2 c c4 c19]; exact j1 c c4 c19, fun j h5 h7 => by rw [u3 j h5 h7]; exact j2 j h5 h7, u4, by rw [if_neg (by omega)]; exact u5, fun i hi => by rw [u6 i hi]; exact t5 i hi, fun _ => ⟨u7, fun i hi => ?_⟩, t7, t8, t9, t10, t11⟩
          have hi0 : i = 0 := by omega
          subst hi0
          rw [show P + 1 + 0 = P + 1 by omega, u8, ht1]; rfl
        · rw [if_neg hr0] at j4 hPB
          have er : rr_ r = r + 1 := if_neg hr0
          rw [er] at j3 hPB
          obtain ⟨k1, k2⟩ := j6 (by omega)
          obtain ⟨σ1, u1, u2, u3, u4, u5, u6, u7, u8⟩ := byte_more (σ 15 p) j3 j4 (by omega) (by omega) k1
          refine ⟨σ1, u1, fun c c4 c19 => by rw [u2 c c4 c19]; exact j1 c c4 c19, fun j h5 h7 => by rw [u3 j h5 h7]; exact j2 j h5 h7, ?_, by rw [if_neg (by omega)]; exact u5, fun i hi => by rw [u6 i (by omega) (by omega)]; exact t5 i hi, fun _ => ⟨u7, fun i hi => ?_⟩, t7, t8, t9, t10, t11⟩
          · rw [u4]; unfold rr_; rw [if_neg (by omega)]; congr 1
          · rw [e2]
            by_cases hir : i = r
            · subst hir
              rw [show P + 1 + i = P + (i + 1) by omega, u8, ht1]
              congr 1
              omega
            · rw [u6 (P + 1 + i) (by omega) (by omega)]
              exact k2 i (by omega)
      obtain ⟨σ1, k1, k2⟩ := key
      have hPB' : P + rr_ (r + 1) ≤ B + (p + 1 - fr) + (if r + 1 = 0 then 0 else 1) := by
        rw [if_neg (by omega)]
        unfold rr_ at hPB ⊢
        rw [if_neg (by omega)]
        by_cases hr0 : r = 0
        · rw [if_pos hr0, if_pos hr0] at hPB; omega
        · rw [if_neg hr0, if_neg hr0] at hPB; omega
      obtain ⟨σ', τ', P', r', st', v1, v2, v3, v4, v5, v6, v7, v8⟩ := ih (e - (p + 1)) (by omega) (p + 1) P (r + 1) (st + 1) n nR σ1 (pt_put τ 7 b (nI (st + 1))) rfl (by omega) (by omega) hPB' (by omega) k2 (by omega) (by omega)
      refine ⟨σ', τ', P', r', st', ?_, ?_, v3, v4, v5, v6, ⟨by have := v7.1; omega, fun _ => by have := v7.1; omega⟩, v8⟩
      · rw [lp_X2_packBytes_10, if_neg (by rw [Int32.le_iff_toInt_le]; omega), hC, pt_b2e, if_pos (show nI ((2, 0) : Nat × Nat).2 = (0 : Int32) from rfl), at_ok hs' (by omega) h2, pt_b2e, k1, pt_b1e, if_neg (by decide), nI_1, nI_1]
        exact v1
      · rw [if_pos (by rw [Int32.lt_iff_toInt_lt, i_3]; omega), nI_1]
        rw [e2] at v2
        exact v2
    · -- a copy
      have y2 := y2 (by omega)
      rw [y2] at hC
      generalize hN : (mx_ 0 g (min w p)).1 = N at *
      generalize hD : (mx_ 0 g (min w p)).2 = D at *
      have z4 : 1 ≤ D ∧ g D = N := by
        rcases z3 with z3 | ⟨z3, z5, -⟩
        · have : N = 0 := by rw [← hN, z3]
          omega
        · exact ⟨z3, z5⟩
      obtain ⟨z5, z6⟩ := z4
      have qD : (nI D).toInt = (D : Int) := i_nI (by omega)
      have hal : f_X2_alike σ (nI p) (nI e) (nI D) = some (nI N, σ) := by
        rw [al_fC hs' h2 he (by omega) z5 (by omega), ht1, hgd, z6]
      have eCC : P + rr_ r ≤ B + (p - fr) + 1 := by
        by_cases hr0 : r = 0
        · rw [if_pos hr0] at hPB; omega
        · rw [if_neg hr0] at hPB; omega
      obtain ⟨σ1, u1, u2, u3, u4, u5, u6, u7, u8⟩ := copy_ok (n := N) (d := D) j3 (by omega) (by omega) z5
      have e10 : (pt_put τ 7 b (nI (st + 1))) 0 10 = nI P := by rw [pt_ne (by omega)]; exact j10
      obtain ⟨τ1, w1, w2, w3, w4, w5⟩ := plain_ok (τ := pt_put τ 7 b (nI (st + 1))) (a := p - r) (b := p) (P := P) (by omega) (by omega) e10 (by omega)
      have w6 : τ1 0 10 = nI (P + rr_ r) ∧ ∀ i, i < P + rr_ r → σ 19 i = τ1 5 i := by
        rcases w5 with ⟨a1, a2⟩ | ⟨a1, a2, a3, a4⟩
        · have hr0 : r = 0 := by omega
          subst hr0
          rw [a2]
          exact ⟨e10, fun i hi => by rw [pt_ne (by omega)]; exact j5 i hi⟩
        · have hr0 : r ≠ 0 := by omega
          have er : rr_ r = r + 1 := if_neg hr0
          rw [er]
          obtain ⟨k1, k2⟩ := j6 (by omega)
          have epr : p - (p - r) = r := by omega
          rw [epr] at a2 a3 a4
          refine ⟨by rw [a2]; congr 1; omega, fun i hi => ?_⟩
          by_cases i1 : i < P
          · rw [w4 i i1, pt_ne (by omega)]; exact j5 i i1
          · by_cases i2 : i = P
            · subst i2; rw [a3, k1]
            · have := a4 (i - P - 1) (by omega)
              rw [show P + 1 + (i - P - 1) = i by omega, pt_ne (by omega), ht2] at this
              rw [this]
              have k3 := k2 (i - P - 1) (by omega)
              rw [show P + 1 + (i - P - 1) = i by omega] at k3
              exact k3
      obtain ⟨w7, w8⟩ := w6
      generalize hQ : P + rr_ r = Q at *
      have e125 : (125 : Int32) + nI N = nI (125 + N) := nI_add 125 N
      have eD1 : nI D - 1 = nI (D - 1) := pk_sub z5
      have hRs : pt_b1 (f_X10_plainTo (pt_put τ 7 b (nI (st + 1))) (nI (p - r)) (nI p)) (fun σ14 => pt_b1 (f_X10_lay σ14 ((125 : Int32) + nI N)) fun σ15 => pt_b1 (f_X10_lay σ15 (nI D - 1)) fun σ16 => lp_X10_packOne_25 kR (nI b) nR σ16 (nI p + nI N) (nI e) (nI p + nI N)) = lp_X10_packOne_25 kR (nI b) nR (pt_put (pt_put (pt_put (pt_put τ1 5 Q (nI (125 + N))) 0 10 (nI (Q + 1))) 5 (Q + 1) (nI (D - 1))) 0 10 (nI (Q + 1 + 1))) (nI (p + N)) (nI e) (nI (p + N)) := by
        rw [w1, pt_b1e, e125, lay_ok _ w7 (by omega), pt_b1e, eD1, lay_ok _ pt_eq (by omega), pt_b1e, nI_add]
      have hJ2 : pk_J σ0 τ0 σ1 (pt_put (pt_put (pt_put (pt_put τ1 5 Q (nI (125 + N))) 0 10 (nI (Q + 1))) 5 (Q + 1) (nI (D - 1))) 0 10 (nI (Q + 1 + 1))) b (Q + 2) 0 (p + N) (st + 1) := by
        refine ⟨fun c c4 c19 => by rw [u2 c c4 c19]; exact j1 c c4 c19, fun j h5 h7 => by rw [u3 j h5 h7]; exact j2 j h5 h7, u4, by rw [if_pos rfl]; exact u5, fun i hi => ?_, fun h => absurd h (by omega), fun c c0 c5 c7 => ?_, fun j hj => ?_, fun j hj => ?_, pt_eq, ?_⟩
        · rw [pt_ne (by omega)]
          by_cases i1 : i = Q + 1
          · subst i1; rw [u8, pt_eq]
          · rw [pt_nj i1, pt_ne (by omega)]
            by_cases i2 : i = Q
            · subst i2; rw [u7, pt_eq]
            · rw [pt_nj i2, u6 i (by omega)]
              exact w8 i (by omega)
        · simp (disch := omega) only [pt_ne]
          rw [w2 c c0 c5, pt_ne c7]; exact j7 c c0 c5 c7
        · simp (disch := omega) only [pt_ne, pt_nj]
          rw [w3 j hj, pt_ne (by omega)]; exact j8 j hj
        · simp (disch := omega) only [pt_ne]
          rw [w2 7 (by omega) (by omega), pt_nj hj]; exact j9 j hj
        · simp (disch := omega) only [pt_ne]
          rw [w2 7 (by omega) (by omega), pt_eq]
      obtain ⟨σ', τ', P', r', st', v1, v2, v3, v4, v5, v6, v7, v8⟩ := ih (e - (p + N)) (by omega) (p + N) (Q + 2) 0 (st + 1) n nR σ1 _ rfl (by omega) (by omega) (by rw [if_pos rfl]; show Q + 2 + 0 ≤ _; omega) (by omega) hJ2 (by omega) (by omega)
      refine ⟨σ', τ', P', r', st', ?_, ?_, v3, v4, v5, v6, ⟨by have := v7.1; omega, fun _ => by have := v7.1; omega⟩, by omega⟩
      · rw [lp_X2_packBytes_10, if_neg (by rw [Int32.le_iff_toInt_le]; omega), hC, pt_b2e, if_neg (by rw [i_eq, i_0]; omega), hal, pt_b2e, u1, pt_b1e, if_pos (by rw [Int32.lt_iff_toInt_lt, i_1]; omega), nI_1, nI_add]
        exact v1
      · rw [if_neg (by rw [Int32.lt_iff_toInt_lt, i_3]; omega), hRs]
        exact v2
