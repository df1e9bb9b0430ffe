set_option maxHeartbeats 8000000 in
theorem sm_free {σ τ : pt_St} {t : Nat} (h : rl_R σ τ) (hb : τ 0 14 = 1) (ht : t < 6) (htt : (t : Int) < (τ 0 15).toInt) (h0t : τ 8 t = 0) : ∃ r σ' τ', (r = 0 ∨ r = 1) ∧ f_X6_doFree σ (nI t) = some (r, σ') ∧ f_X10_free τ (nI t) = some (r, τ') ∧ rl_R σ' τ' ∧ τ' 0 14 = 1 := by
  obtain ⟨hA, hB, hE, hP, hI⟩ := id h
  obtain ⟨e1, e2, e3, e4, e5, e6, e7, e8, e9, e10, e11⟩ := id hA
  obtain ⟨b1, b2, b3, b4, b5, b6, b7, b8, b9, b10, b11, b12, b13, b14⟩ := id hB
  obtain ⟨g1, g2, g3, g4, g5, g6, g7, g8, g9, g10, g11, g12, g13, g14, g15, g16, g17, g18⟩ := id hE
  obtain ⟨i1, i2, i3, i4, i5, i6, i7, i8, i9, i10, i11, i12, i13, i14⟩ := id (hI hb)
  have hmy := rl_many_le hB
  obtain ⟨p1, p2, p3, p4, p5, p6⟩ := hP (b14 hb)
  have qt : (nI t).toNatClampNeg = t := nI_clamp (by omega)
  obtain ⟨y0, y1, y2, y3, y4, y5⟩ := g18 t ht
  obtain ⟨σe, τe, n1, n2, n3, n4⟩ := end_ok h hb ht htt (by rw [h0t]; exact ⟨by decide, by decide⟩)
  have he : τe 0 14 = 1 := by rw [n4]; exact hb
  have hin : pt_in (nI t) 6 := nI_in ht (by omega)
  by_cases c1 : τ 13 t = 0
  · by_cases c2 : τ 0 34 = -1 ∧ τ 0 35 = 0
    · have hst : f_X6_hasStopped σ = some (0, σ) := by rw [f_X6_hasStopped, g4, if_pos c2.1]
      have hst2 : f_X10_isStopped τ = some (0, τ) := by rw [f_X10_isStopped, c2.2, if_pos (by decide)]
      by_cases c3 : τ 0 30 = τ 0 16
      · refine ⟨1, σe, τe, Or.inr rfl, ?_, ?_, n3, he⟩
        · rw [f_X6_doFree, qt, if_pos (by rw [y5]; exact c1), hst, pt_b2e, if_pos rfl, f_X2_blocks, pt_b2e, if_neg (by rw [Int32.lt_iff_toInt_lt, g11, c3]; omega), n1, pt_b1e]
        · rw [f_X10_free, if_pos hin, qt, if_pos c1, hst2, pt_b2e, if_pos rfl, if_pos c3, n2, pt_b1e]
      · have c3' : (τ 0 30).toInt < rl_many τ := by
          have : (τ 0 30).toInt ≠ (τ 0 16).toInt := fun q => c3 (i_eq.mpr q)
          omega
        -- one doing a block again
        obtain ⟨B, hBd⟩ : ∃ B : Nat → Nat, B = fun u => (τ 9 u).toInt.toNat := ⟨_, rfl⟩
        have hBu : ∀ u, u < 6 → (τ 8 u = 1 ∨ τ 8 u = 2) → B u < 40 ∧ τ 9 u = nI (B u) := fun u hu q => by
          have q4 := (i8 u hu).2.2.2.1 (by rcases q with q | q <;> simp [q])
          rw [hBd]
          exact ⟨by simp only; omega, i_of q4.1⟩
        obtain ⟨th, hthd⟩ : ∃ th, th = (τ 0 15).toInt.toNat := ⟨_, rfl⟩
        have hth : τ 0 15 = nI th := by rw [hthd]; exact i_of (by omega)
        have hz : ∀ u, u < 6 → th ≤ u → τ 8 u = 0 := fun u hu hge => (i8 u hu).2.1 (by omega)
        have hst1 : ∀ u, u < 6 → σ (9 + u) 1 = τ 8 u ∧ σ (9 + u) 2 = τ 9 u := fun u hu => ⟨(g18 u hu).2.1, (g18 u hu).2.2.1⟩
        obtain ⟨ra, a1, a2⟩ := again_lp (B := B) 6 0 pt_F σ (by omega) (by unfold pt_F; omega) (fun u hu q => by
          rw [(hst1 u hu).1] at q
          rw [(hst1 u hu).2]
          exact hBu u hu (Or.inr q))
        obtain ⟨rb, r1, r2⟩ := again_R (by omega) hth hz hBu
        have hab : ra = rb ∧ (ra = 0 ∨ ra = 1) := by
          rcases a2 with ⟨a0, a2⟩ | ⟨a0, u, u1, u2, u3⟩
          · rcases r2 with ⟨r0, r2⟩ | ⟨r0, v, v1, v2, v3⟩
            · exact ⟨by rw [a0, r0], Or.inl a0⟩
            · rcases v2 with v2 | v2
              · have := (i8 v v1).2.2.2.2.2.2.2.1 v2
                rw [hBd] at v3
                exact absurd this v3
              · have := a2 v (by omega) v1 (by rw [(hst1 v v1).1]; exact v2)
                rw [g14] at this
                exact absurd this v3
          · rcases r2 with ⟨r0, r2⟩ | ⟨r0, -⟩
            · rw [(hst1 u u1).1] at u2
              have := r2 u u1 (Or.inr u2)
              rw [g14] at u3
              exact absurd this u3
            · exact ⟨by rw [a0, r0], Or.inr a0⟩
        have hCa : f_X6_isBlockDoneAgain σ = some (ra, σ) := a1
        have preC : f_X6_doFree σ (nI t) = (if ra = 0 then if τ 0 27 ≤ 0 then if τ 0 24 < σ 4 6 then pt_b1 (f_X6_take σ (nI t) (τ 0 24)) fun σ11 => pt_do (pt_put σ11 5 8 (σ11 5 8 + 1)) fun σ12 => some ((1 : Int32), σ12) else some ((0 : Int32), σ) else pt_b2 (f_X6_isAnyAtWork σ) fun r13 σ13 => if r13 = 0 then pt_b2 (f_X0_takeFirst σ13) fun r15 σ15 => pt_b1 (f_X6_take σ15 (nI t) r15) fun σ16 => some ((1 : Int32), σ16) else some ((0 : Int32), σ13) else some ((0 : Int32), σ)) := by
          rw [f_X6_doFree, qt, if_pos (by rw [y5]; exact c1), hst, pt_b2e, if_pos rfl, f_X2_blocks, pt_b2e, if_pos (by rw [Int32.lt_iff_toInt_lt, g11]; omega), hCa, pt_b2e, f_X2_blocks, pt_b2e, g12, g3]
        have preR : f_X10_free τ (nI t) = (if rb = 0 then if τ 0 27 ≤ 0 then if τ 0 24 = τ 0 16 then some ((0 : Int32), τ) else pt_do (pt_put τ 0 24 (τ 0 24 + 1)) fun σ11 => pt_b1 (f_X10_takes σ11 (nI t) (σ11 0 24 - 1)) fun σ12 => some ((1 : Int32), σ12) else pt_b2 (f_X10_isSome τ 2 0) fun r13 σ13 => if r13 = 0 then pt_do (pt_put σ13 0 27 (σ13 0 27 - 1)) fun σ15 => lp_X10_free_82 (kx_X10_free_82 (nI t)) (nI t) pt_F σ15 (σ13 15 (0 : Int32).toNatClampNeg) 0 else some ((0 : Int32), σ13) else some ((0 : Int32), τ)) := by
          rw [f_X10_free, if_pos hin, qt, if_pos c1, hst2, pt_b2e, if_pos rfl, if_neg c3, r1, pt_b2e]
        rw [preC, preR, ← hab.1]
        rcases hab.2 with hr | hr
        · rw [hr, if_pos rfl, if_pos rfl]
          have h14z : ∀ u, u < 6 → (τ 8 u = 1 ∨ τ 8 u = 2) → τ 14 (τ 9 u).toInt.toNat = 0 := by
            rcases r2 with ⟨r0, r2⟩ | ⟨r0, -⟩
            · rw [hBd] at r2; exact r2
            · rw [← hab.1, hr] at r0; exact absurd r0 (by decide)
          by_cases c4 : (τ 0 27).toInt ≤ 0
          · have hle : τ 0 27 ≤ 0 := by rw [Int32.le_iff_toInt_le, i_0]; exact c4
            rw [if_pos hle, if_pos hle]
            by_cases c5 : τ 0 24 = τ 0 16
            · refine ⟨0, σ, τ, Or.inl rfl, ?_, by rw [if_pos c5], h, hb⟩
              rw [if_neg (by rw [Int32.lt_iff_toInt_lt, c5]; omega)]
            · have c5' : (τ 0 24).toInt < (τ 0 16).toInt := by
                have : (τ 0 24).toInt ≠ (τ 0 16).toInt := fun q => c5 (i_eq.mpr q)
                omega
              obtain ⟨x, hxd⟩ : ∃ x, x = (τ 0 24).toInt.toNat := ⟨_, rfl⟩
              have hx : τ 0 24 = nI x := by rw [hxd]; exact i_of i5.1
              have qx : (nI x).toInt = (x : Int) := i_nI (by omega)
              have qx1 : (nI (x + 1)).toInt = ((x + 1 : Nat) : Int) := i_nI (by omega)
              obtain ⟨τ2, hτ2⟩ : ∃ y, y = pt_put τ 0 24 (nI (x + 1)) := ⟨_, rfl⟩
              have t24 : τ2 0 24 = nI (x + 1) := by rw [hτ2, pt_eq]
              obtain ⟨σ1, τ1, w1, w2, w3, w4, w5⟩ := take_ok (τ2 := τ2) (x := x) h hb ht htt h0t c2 (by omega) (fun k k0 => by rw [hτ2, pt_ne k0]) (fun j j24 => by rw [hτ2, pt_nj j24]) (by rw [t24, qx1, hx, qx]; omega) (fun u hu hut q => by
                have q1 := i14.1 u hu q
                refine ⟨fun e => ?_, h14z u hu q⟩
                rw [e, qx] at q1
                omega) (Or.inl (i7.2.2.1 x (by omega) (by omega)))
              refine ⟨1, pt_put σ1 5 8 (nI (x + 1)), τ1, Or.inr rfl, ?_, ?_, w5 _ (fun c hc => by rw [pt_ne hc]) (fun j hj => by rw [pt_nj hj, w4]) (by rw [pt_eq, t24]), w3⟩
              · rw [if_pos (by rw [Int32.lt_iff_toInt_lt]; omega), hx, w1, pt_b1e, pt_doe, w4, g3, hx, nI_1]
              · rw [if_neg c5, hx, nI_1, pt_doe, ← hτ2, t24, show (1 : Int32) = nI 1 from rfl, pk_sub (by omega), show x + 1 - 1 = x by omega, w2, pt_b1e]
          · have hle : ¬ τ 0 27 ≤ 0 := by rw [Int32.le_iff_toInt_le, i_0]; exact c4
            rw [if_neg hle, if_neg hle]
            obtain ⟨rc, d1, d2⟩ := any_lp 6 0 pt_F σ (by omega) (by unfold pt_F; omega)
            have hCw : f_X6_isAnyAtWork σ = some (rc, σ) := d1
            obtain ⟨rd, f1, f2⟩ := any_R (by omega) hth hz
            have hcd : rc = rd := by
              rcases d2 with ⟨d0, d2⟩ | ⟨d0, u, u1, u2⟩
              · rcases f2 with ⟨f0, -⟩ | ⟨f0, v, v1, v2⟩
                · rw [d0, f0]
                · exact absurd (by rw [(hst1 v v1).1]; exact v2) (d2 v (by omega) v1)
              · rcases f2 with ⟨f0, f2⟩ | ⟨f0, -⟩
                · rw [(hst1 u u1).1] at u2
                  exact absurd u2 (f2 u u1)
                · rw [d0, f0]
            rw [hCw, pt_b2e, f1, pt_b2e]
            rcases f2 with ⟨f0, f2⟩ | ⟨f0, -⟩
            · -- one is done again
              have hc0 : rc = 0 := by rw [hcd, f0]
              have hs0 := sum_zero (τ := τ) 6 f2
              have hm0 : τ 0 33 = 0 := by
                have l1 := i9.1
                by_cases q : 0 < (τ 0 33).toInt
                · have q1 := i10 q
                  obtain ⟨-, u, u2, u3, u4⟩ := i9.2.2.1 0 (by omega)
                  have e : (τ 17 0).toInt.toNat = u := by rw [u3, i_nI (by omega)]; omega
                  rw [e] at q1
                  have q4 := (i8 u u2).2.2.2.1 (Or.inl u4)
                  obtain ⟨Lx, v1, v2, v3, -⟩ := len_ok hA hB (x := τ 9 u) q4.1 (by omega)
                  omega
                · rw [i_eq, i_0]; omega
              have hno : ∀ u, u < 6 → τ 8 u ≠ 1 ∧ τ 8 u ≠ 2 := fun u hu => ⟨fun q => by
                obtain ⟨i, hi, -⟩ := i9.2.1 u hu q
                rw [hm0, i_0] at hi
                omega, f2 u hu⟩
              obtain ⟨A, hAd⟩ : ∃ A, A = (τ 0 27).toInt.toNat := ⟨_, rfl⟩
              have hA27 : τ 0 27 = nI A := by rw [hAd]; exact i_of i7.1
              have hcl := cnt_le (τ 14) 40
              have hA1 : 1 ≤ A := by omega
              have hA40 : A ≤ 40 := by omega
              have qA : (nI A).toInt = (A : Int) := i_nI (by omega)
              have qA1 : (nI (A - 1)).toInt = ((A - 1 : Nat) : Int) := i_nI (by omega)
              have eA : nI A - 1 = nI (A - 1) := pk_sub hA1
              have e0 : (0 : Int32).toNatClampNeg = 0 := by decide
              obtain ⟨x, hxd⟩ : ∃ x, x = (τ 15 0).toInt.toNat := ⟨_, rfl⟩
              have hx0 := i7.2.2.2 0 (by omega)
              have hx : τ 15 0 = nI x := by rw [hxd]; exact i_of hx0.1
              obtain ⟨σ2, u1, u2, u3⟩ := tf_lp hA40 (x1 := nI x) (k := kx_X0_takeFirst_18) (A - 1) 1 pt_F σ (by omega) (by omega) (by unfold pt_F; omega) (by rw [g12, hA27])
              obtain ⟨τ2, hτ2⟩ : ∃ y, y = pt_put τ 0 27 (nI (A - 1)) := ⟨_, rfl⟩
              have t27 : τ2 0 27 = nI (A - 1) := by rw [hτ2, pt_eq]
              obtain ⟨τ3, v1, v2, v3⟩ := fr_lp (M := A - 1) (by omega) (a1 := nI t) (x2 := nI x) (k := kx_X10_free_82 (nI t)) (A - 1) 0 pt_F τ2 (by omega) (by unfold pt_F; omega) t27
              have u1' : lp_X0_takeFirst_18 kx_X0_takeFirst_18 pt_F σ (nI x) 1 = kx_X0_takeFirst_18 σ2 (nI x) (nI A) := u1
              have v1' : lp_X10_free_82 (kx_X10_free_82 (nI t)) (nI t) pt_F τ2 (nI x) 0 = kx_X10_free_82 (nI t) τ3 (nI x) (nI (A - 1)) := v1
              obtain ⟨σ3, hσ3⟩ : ∃ y, y = pt_put σ2 8 2 (nI (A - 1)) := ⟨_, rfl⟩
              have t15 : τ2 15 = τ 15 := by rw [hτ2, pt_ne (by omega)]
              have hR3 : rl_R σ3 τ3 := by
                refine again_upd h hb (fun c c8 c26 => by rw [hσ3, pt_ne c8, u2 c c26]) (fun k k0 k15 => by rw [v2 k k15, hτ2, pt_ne k0]) (fun j j27 => by rw [v2 0 (by omega), hτ2, pt_nj j27]) (by rw [hσ3, pt_eq, v2 0 (by omega), t27]) ?_ ?_
                · funext j
                  rw [hσ3, pt_ne (by omega), u3 j, v3 j, g15, t15]
                  by_cases c : j < A - 1
                  · rw [if_pos (by omega), if_pos (by omega)]
                  · rw [if_neg (by omega), if_neg (by omega)]
                · rw [v2 0 (by omega), t27, qA1, hA27, qA]
                  refine ⟨by omega, by omega, fun i hi => ?_⟩
                  rw [v3 i, if_pos (by omega), t15]
                  exact i7.2.2.2 (i + 1) (by omega)
              have k0 : ∀ k, k ≠ 0 → k ≠ 15 → τ3 k = τ k := fun k k0 k15 => by rw [v2 k k15, hτ2, pt_ne k0]
              have j0 : ∀ j, j ≠ 27 → τ3 0 j = τ 0 j := fun j j27 => by rw [v2 0 (by omega), hτ2, pt_nj j27]
              have q31 : (τ 0 31).toInt = (τ 0 4).toInt := by omega
              obtain ⟨σ4, τ4, w1, w2, w3, w4, w5⟩ := take_ok (τ2 := τ3) (x := x) hR3 (by rw [j0 14 (by omega)]; exact hb) ht (by rw [j0 15 (by omega)]; exact htt) (by rw [k0 8 (by omega) (by omega)]; exact h0t) (by rw [j0 34 (by omega), j0 35 (by omega)]; exact c2) (by rw [j0 16 (by omega)]; omega) (fun _ _ => rfl) (fun _ _ => rfl) (by rw [j0 24 (by omega), j0 16 (by omega)]; omega) (fun u hu hut q => by
                rw [k0 8 (by omega) (by omega)] at q
                rcases q with q | q
                · exact absurd q (hno u hu).1
                · exact absurd q (hno u hu).2) (Or.inr ⟨fun u hu hut => by rw [k0 8 (by omega) (by omega)]; exact hno u hu, by rw [j0 33 (by omega)]; exact hm0, by rw [j0 31 (by omega)]; omega⟩)
              refine ⟨1, σ4, τ4, Or.inr rfl, ?_, ?_, w5 σ4 (fun _ _ => rfl) (fun j _ => by rw [w4]) ?_, w3⟩
              · rw [if_pos hc0, f_X0_takeFirst, g12, if_pos (by rw [Int32.lt_iff_toInt_lt, i_0]; omega), e0, g15, hx, u1', kx_X0_takeFirst_18, u2 8 (by omega), g12, hA27, eA, pt_doe, ← hσ3, pt_b2e, w1, pt_b1e]
              · rw [if_pos f0, pt_doe, hA27, eA, ← hτ2, e0, hx, v1', kx_X10_free_82, w2, pt_b1e]
              · rw [w4, hσ3, pt_ne (by omega), u2 5 (by omega), g3, j0 24 (by omega)]
            · refine ⟨0, σ, τ, Or.inl rfl, ?_, ?_, h, hb⟩
              · rw [if_neg (by rw [hcd, f0]; decide)]
              · rw [if_neg (by rw [f0]; decide)]
        · rw [hr, if_neg (by decide), if_neg (by decide)]
          exact ⟨0, σ, τ, Or.inl rfl, rfl, rfl, h, hb⟩
    · have c2' : 0 ≤ (τ 0 34).toInt ∧ 1 ≤ (τ 0 35).toInt := by
        rcases i11 with q | ⟨q1, q2, -⟩
        · exact absurd q c2
        · exact ⟨q1, q2⟩
      refine ⟨1, σe, τe, Or.inr rfl, ?_, ?_, n3, he⟩
      · rw [f_X6_doFree, qt, if_pos (by rw [y5]; exact c1), f_X6_hasStopped, g4, if_neg (by rw [i_eq, i_m1]; omega), pt_b2e, if_neg (by decide), n1, pt_b1e]
      · rw [f_X10_free, if_pos hin, qt, if_pos c1, f_X10_isStopped, if_neg (by rw [Int32.le_iff_toInt_le, i_0]; omega), pt_b2e, if_neg (by decide), n2, pt_b1e]
  · refine ⟨1, σe, τe, Or.inr rfl, ?_, ?_, n3, he⟩
    · rw [f_X6_doFree, qt, if_neg (by rw [y5]; exact c1), n1, pt_b1e]
    · rw [f_X10_free, if_pos hin, qt, if_neg c1, n2, pt_b1e]
