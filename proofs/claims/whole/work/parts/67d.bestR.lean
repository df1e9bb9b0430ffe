theorem best_R {k1 : pt_St → Int32 → Int32 → Int32 → Option pt_St} {a1 x4 : Int32} {τ : pt_St} {p e w : Nat} (he : e ≤ 160) (hp : p < e) (hw : τ 0 3 = nI w) (hw2 : w ≤ 64) : ∀ (m j n : Nat), j + m = min w p → m < n → lp_X10_packOne_39 k1 a1 (nI p) (nI e) x4 n τ (nI (mx_ 0 (fun d => al_ (τ 1) d (e - p) p) j).1) (nI (mx_ 0 (fun d => al_ (τ 1) d (e - p) p) j).2) (nI (j + 1)) = k1 τ (nI (mx_ 0 (fun d => al_ (τ 1) d (e - p) p) (min w p)).1) (nI (mx_ 0 (fun d => al_ (τ 1) d (e - p) p) (min w p)).2) (nI (min w p + 1)) := by
  intro m
  have hg : ∀ d, (fun d => al_ (τ 1) d (e - p) p) d ≤ e - p := fun d => al_le _ _ _ _
  generalize hgg : (fun d => al_ (τ 1) d (e - p) p) = g at hg ⊢
  have q6 : (nI w).toInt = (w : Int) := i_nI (by omega)
  have q7 : (nI p).toInt = (p : Int) := i_nI (by omega)
  induction m with
  | zero =>
    intro j n hj hn
    obtain ⟨n, rfl⟩ : ∃ z, n = z + 1 := ⟨n - 1, by omega⟩
    have q : (nI (j + 1)).toInt = ((j + 1 : Nat) : Int) := i_nI (by omega)
    have ej : j = min w p := by omega
    rw [lp_X10_packOne_39, hw]
    by_cases c : w < j + 1
    · rw [if_pos (by rw [Int32.lt_iff_toInt_lt]; omega), ej]
    · rw [if_neg (by rw [Int32.lt_iff_toInt_lt]; omega), if_pos (by rw [Int32.lt_iff_toInt_lt]; omega), ej]
  | succ m ih =>
    intro j n hj hn
    obtain ⟨n, rfl⟩ : ∃ z, n = z + 1 := ⟨n - 1, by omega⟩
    have q : (nI (j + 1)).toInt = ((j + 1 : Nat) : Int) := i_nI (by omega)
    have hb : (mx_ 0 g j).1 ≤ 200 := by
      obtain ⟨z1, z2, z3⟩ := mx_at 0 g j
      rcases z3 with z3 | ⟨-, z3, -⟩
      · rw [z3]; show 0 ≤ 200; omega
      · have := hg (mx_ 0 g j).2; omega
    have q3 : (nI (mx_ 0 g j).1).toInt = ((mx_ 0 g j).1 : Int) := i_nI (by omega)
    rw [lp_X10_packOne_39, hw, if_neg (by rw [Int32.lt_iff_toInt_lt]; omega), if_neg (by rw [Int32.lt_iff_toInt_lt]; omega), al_fR he (by omega) (by omega) (by omega)]
    have e1 : al_ (τ 1) (j + 1) (e - p) p = g (j + 1) := by rw [← hgg]
    rw [e1]
    have q5 : (nI (g (j + 1))).toInt = ((g (j + 1) : Nat) : Int) := i_nI (by have := hg (j + 1); omega)
    rw [pt_b2e]
    have ih := ih (j + 1) n (by omega) (by omega)
    by_cases c2 : (mx_ 0 g j).1 < g (j + 1)
    · rw [if_neg (by rw [Int32.le_iff_toInt_le]; omega), nI_1]
      have e2 : mx_ 0 g (j + 1) = (g (j + 1), j + 1) := by rw [mx_, if_pos c2]
      rw [e2] at ih
      exact ih
    · rw [if_pos (by rw [Int32.le_iff_toInt_le]; omega), nI_1]
      have e2 : mx_ 0 g (j + 1) = mx_ 0 g j := by rw [mx_, if_neg c2]
      rw [e2] at ih
      exact ih
