theorem pt_doe {α β : Type} (a : α) (f : α → β) : pt_do a f = f a := rfl
set_option maxHeartbeats 4000000 in
theorem sm_clear {σ τ : pt_St} (h : rl_R σ τ) : ∃ (r : Int32) (σ' τ' : pt_St), f_X9_clear σ = some (r, σ') ∧ f_X10_clear τ = some (r, τ') ∧ rl_R σ' τ' := by
  obtain ⟨hA, hB, hE, hP, hI⟩ := id h
  obtain ⟨e1, e2, e3, e4, e5, e6, e7, e8, e9, e10, e11⟩ := id hA
  obtain ⟨b1, b2, b3, b4, b5, b6, b7, b8, b9, b10, b11, b12, b13, b14⟩ := id hB
  obtain ⟨g1, g2, g3, g4, g5, g6, g7, g8, g9, g10, g11, g12, g13, g14, g15, g16, g17, g18⟩ := id hE
  obtain ⟨σ1, s1, s2, s3⟩ := cl_rem kx_X3_removeAll_2 40 0 pt_F (pt_put σ 1 1 0) (by omega) (by unfold pt_F; omega)
  obtain ⟨τ1, t1, t2, t3⟩ := rf_clr kx_X10_clear_22 40 0 pt_F (pt_put (pt_put (pt_put τ 0 1 0) 0 14 0) 0 9 0) (τ 0 1) (by omega) (by unfold pt_F; omega)
  have z0 : nI 0 = (0 : Int32) := by decide
  rw [z0] at s1 t1
  refine ⟨τ 0 1, pt_put (pt_put σ1 4 8 0) 0 5 0, τ1, ?_, ?_, ?_⟩
  · have s0 : f_X3_removeAll (pt_put σ 1 1 0) = some σ1 := by
      unfold f_X3_removeAll
      rw [s1]; rfl
    simp only [f_X9_clear, f_X7_length, f_X7_empty, f_X2_forget, pt_b2, pt_b1, pt_do, s0, e1]
  · unfold f_X10_clear
    rw [pt_doe, pt_doe, pt_doe, t1]; rfl
  · have s17 : ∀ j, σ1 17 j = τ1 2 j := by
      intro j
      rw [s3 j, t3 j, pt_ne (by omega), pt_ne (by omega), pt_ne (by omega), pt_ne (by omega), e8]
    refine ⟨?_, ?_, ?_, ?_, ?_⟩
    · unfold rl_A
      simp (disch := omega) only [pt_ne, pt_nj, pt_eq, s2, t2]
      exact ⟨trivial, e2, e3, e4, e5, e6, e7, funext s17, e9, trivial, trivial⟩
    · unfold rl_B
      rw [t2 0 (by omega)]
      simp (disch := omega) only [pt_ne, pt_nj, pt_eq, i_0]
      refine ⟨by omega, by omega, b3, b4, b5, b6, b7, b8, b9, b10, fun b => ?_, by simp, by simp, by simp⟩
      rw [t3 b]
      split
      · rw [i_0]; omega
      · rw [pt_ne (by omega), pt_ne (by omega), pt_ne (by omega)]; exact b11 b
    · exact rl_E_fr hE (fun k hk => by simp (disch := omega) only [pt_ne, s2]) (fun j hj => by simp (disch := omega) only [pt_ne, pt_nj, t2]) (fun k hk => by simp (disch := omega) only [pt_ne, t2])
    · rw [t2 0 (by omega), pt_eq]; simp
    · rw [t2 0 (by omega)]
      simp (disch := omega) only [pt_nj, pt_eq]
      simp
