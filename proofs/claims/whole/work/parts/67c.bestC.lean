theorem best_C {σ : pt_St} {p e s F : Nat} (hs : σ 1 1 = nI s) (h2 : s ≤ 160) (he : e ≤ s) (hp : p < e) (hF : F ≤ p) : ∀ (m j n : Nat), j + m = F → m < n → lp_X2_bestDistance_21 (kx_X2_bestDistance_21 (nI p) (nI e)) (nI p) (nI e) n σ (nI (mx_ 2 (fun d => al_ (σ 15) d (e - p) p) j).2) (nI (mx_ 2 (fun d => al_ (σ 15) d (e - p) p) j).1) (nI F) (nI (j + 1)) = some (nI (mx_ 2 (fun d => al_ (σ 15) d (e - p) p) F).2, σ) := by
  intro m
  have hg : ∀ d, (fun d => al_ (σ 15) d (e - p) p) d ≤ e - p := fun d => al_le _ _ _ _
  generalize hgg : (fun d => al_ (σ 15) d (e - p) p) = g at hg ⊢
  induction m with
  | zero =>
    intro j n hj hn
    obtain ⟨n, rfl⟩ : ∃ z, n = z + 1 := ⟨n - 1, by omega⟩
    have q : (nI (j + 1)).toInt = ((j + 1 : Nat) : Int) := i_nI (by omega)
    have q2 : (nI F).toInt = (F : Int) := i_nI (by omega)
    rw [lp_X2_bestDistance_21, if_pos (by rw [Int32.lt_iff_toInt_lt]; omega), kx_X2_bestDistance_21, show j = F by omega]
  | succ m ih =>
    intro j n hj hn
    obtain ⟨n, rfl⟩ : ∃ z, n = z + 1 := ⟨n - 1, by omega⟩
    have q : (nI (j + 1)).toInt = ((j + 1 : Nat) : Int) := i_nI (by omega)
    have q2 : (nI F).toInt = (F : Int) := i_nI (by omega)
    obtain ⟨z1, z2, z3⟩ := mx_at 2 g j
    have hb : (mx_ 2 g j).1 ≤ 200 := by
      rcases z3 with z3 | ⟨-, z3, -⟩
      · rw [z3]; show 2 ≤ 200; omega
      · have := hg (mx_ 2 g j).2; omega
    have q3 : (nI (mx_ 2 g j).1).toInt = ((mx_ 2 g j).1 : Int) := i_nI (by omega)
    have q4 : (nI (e - p)).toInt = ((e - p : Nat) : Int) := i_nI (by omega)
    rw [lp_X2_bestDistance_21, if_neg (by rw [Int32.lt_iff_toInt_lt]; omega), pk_sub (by omega)]
    by_cases c : e - p ≤ (mx_ 2 g j).1
    · rw [if_pos (by rw [Int32.le_iff_toInt_le]; omega), kx_X2_bestDistance_21, mx_stay 2 g (e - p) hg j c F (by omega)]
    · rw [if_neg (by rw [Int32.le_iff_toInt_le]; omega), al_fC hs h2 he (by omega) (by omega) (by omega)]
      have e1 : al_ (σ 15) (j + 1) (e - p) p = g (j + 1) := by rw [← hgg]
      rw [e1]
      have q5 : (nI (g (j + 1))).toInt = ((g (j + 1) : Nat) : Int) := i_nI (by have := hg (j + 1); omega)
      rw [pt_b2e]
      have ih := ih (j + 1) n (by omega) (by omega)
      by_cases c2 : (mx_ 2 g j).1 < g (j + 1)
      · rw [if_neg (by rw [Int32.le_iff_toInt_le]; omega), nI_1]
        have e2 : mx_ 2 g (j + 1) = (g (j + 1), j + 1) := by rw [mx_, if_pos c2]
        rw [e2] at ih
        exact ih
      · rw [if_pos (by rw [Int32.le_iff_toInt_le]; omega), nI_1]
        have e2 : mx_ 2 g (j + 1) = mx_ 2 g j := by rw [mx_, if_neg c2]
        rw [e2] at ih
        exact ih
theorem best_fC {σ : pt_St} {p e s w : Nat} (hs : σ 1 1 = nI s) (h2 : s ≤ 160) (he : e ≤ s) (hp : p < e) (hw : σ 2 1 = nI w) (hw2 : w ≤ 64) : f_X2_bestDistance σ (nI p) (nI e) = some (nI (mx_ 2 (fun d => al_ (σ 15) d (e - p) p) (min w p)).2, σ) := by
  unfold f_X2_bestDistance
  have := best_C hs h2 he hp (F := min w p) (Nat.min_le_right w p) (min w p) 0 pt_F (by omega) (by unfold pt_F; omega)
  have q : (nI p).toInt = (p : Int) := i_nI (by omega)
  have q2 : (nI w).toInt = (w : Int) := i_nI (by omega)
  have e1 : (if nI p < nI w then nI p else nI w) = nI (min w p) := by
    by_cases c : p < w
    · rw [if_pos (by rw [Int32.lt_iff_toInt_lt]; omega), Nat.min_eq_right (by omega)]
    · rw [if_neg (by rw [Int32.lt_iff_toInt_lt]; omega), Nat.min_eq_left (by omega)]
  unfold f_X5_window
  rw [pt_b2e, hw, e1]
  rw [show nI (mx_ 2 (fun d => al_ (σ 15) d (e - p) p) 0).2 = (0 : Int32) from rfl, show nI (mx_ 2 (fun d => al_ (σ 15) d (e - p) p) 0).1 = (2 : Int32) from rfl, show nI (0 + 1) = (1 : Int32) from rfl] at this
  rw [this]
