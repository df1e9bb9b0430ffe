/-- the states behind the constructors -/
def pt_s0 : pt_St := fun k => match k with
  | 2 => fun j => match j with
    | 0 => 8
    | 1 => 16
    | 2 => 64
    | _ => 2
  | 10 => fun j => match j with
    | 0 => 1
    | _ => 0
  | 11 => fun j => match j with
    | 0 => 2
    | _ => 0
  | 12 => fun j => match j with
    | 0 => 3
    | _ => 0
  | 13 => fun j => match j with
    | 0 => 4
    | _ => 0
  | 14 => fun j => match j with
    | 0 => 5
    | _ => 0
  | 23 => fun _ => -1
  | _ => fun _ => 0
def pt_t0 : pt_St := fun k => match k with
  | 0 => fun j => match j with
    | 2 => 8
    | 3 => 16
    | 4 => 64
    | 5 => 2
    | _ => 0
  | _ => fun _ => 0
theorem pt_arrx {cA : ClassId} {n : Nat} {f g : Nat → Option Nat} (h : ∀ j, j < n → f j = g j) : vp_cell cA (n, .inr (.inr (.inr (.inr f)))) = vp_cell cA (n, .inr (.inr (.inr (.inr g)))) := by
  rw [vp_cell_q, vp_cell_q]
  unfold arrV
  congr 1
  congr 1
  funext j
  show va_rf (f j.val) = va_rf (g j.val)
  rw [h j.val j.isLt]
theorem pt_P1 {D : va_G} {a : Nat} {cA : ClassId} {n : Nat} {f g : Nat → Option Nat} {H : Heap} (hP : va_P D vwCl [(a, .inl (cA, n, .inr (.inr (.inr (.inr f)))))] H) (h : ∀ j, j < n → f j = g j) : va_P D vwCl [(a, .inl (cA, n, .inr (.inr (.inr (.inr g)))))] H := by
  intro k q hk
  have hz : k < 1 := (List.getElem?_eq_some_iff.mp hk).1
  rw [show k = 0 by omega] at hk
  cases hk
  have h1 := hP 0 _ rfl
  exact h1.trans (by rw [pt_arrx h])
set_option maxHeartbeats 8000000 in
set_option maxRecDepth 100000 in
theorem whole_open {Rl : pt_St → pt_St → Prop} (hsim : pt_sim Rl) (h0 : Rl pt_s0 pt_t0) {p : Program} {e : Env} {s : State} {m : MethodId} {below : List Frame} {meth : Method} {c : Code} (l : Launch) {b L : Nat} {xs : Nat → Int32} (hL : L ≤ 2560) (C0 : lw_At p s m meth c b L xs) : W p l e room_1 s m #[Value.ref b] below meth c s.heap [] 0 0 (lw_Z below #[Value.ref b] s) (entryFrame m ([Value.ref b] : List Value).toArray 4) := by
  obtain ⟨hx, hb, hr, hml, hown, hts0, hX, hbl, hlk, hgv⟩ := C0
  have hts : ∀ w ∈ wsL_law, w.before #[Value.ref b] s = true := fun w h => hts0 w (wsL_law_in w h)
  have hA : ∀ q : Nat, s.heap.size ≤ q → (fun q : Nat => s.heap.size ≤ q) q := fun _ h => h
  have hnA : ∀ a : Nat, a < s.heap.size → ¬ (fun q : Nat => s.heap.size ≤ q) a := fun a h => Nat.not_le.mpr h
  obtain ⟨cX0, iX0, hnX0⟩ := u_known (C := RX0) (T := TX0) (N := 3) (n := 3) hts0 inX0 (hts0 _ wi_instX0)
  obtain ⟨cX1, iX1, hnX1⟩ := u_known (C := RX1) (T := TX1) (N := 3) (n := 3) hts0 inX1 (hts0 _ wi_instX1)
  obtain ⟨cX2, iX2, hnX2⟩ := u_known (C := RX2) (T := TX2) (N := 9) (n := 9) hts0 inX2 (hts0 _ wi_instX2)
  obtain ⟨cX3, iX3, hnX3⟩ := u_known (C := RX3) (T := TX3) (N := 3) (n := 3) hts0 inX3 (hts0 _ wi_instX3)
  obtain ⟨cX4, iX4, hnX4⟩ := u_known (C := RX4) (T := TX4) (N := 4) (n := 4) hts0 inX4 (hts0 _ wi_instX4)
  obtain ⟨cX5, iX5, hnX5⟩ := u_known (C := RX5) (T := TX5) (N := 4) (n := 4) hts0 inX5 (hts0 _ wi_instX5)
  obtain ⟨cX6, iX6, hnX6⟩ := u_known (C := RX6) (T := TX6) (N := 13) (n := 13) hts0 inX6 (hts0 _ wi_instX6)
  obtain ⟨cX7, iX7, hnX7⟩ := u_known (C := RX7) (T := TX7) (N := 2) (n := 2) hts0 inX7 (hts0 _ wi_instX7)
  obtain ⟨cX8, iX8, hnX8⟩ := u_known (C := RX8) (T := TX8) (N := 8) (n := 8) hts0 inX8 (hts0 _ wi_instX8)
  obtain ⟨cX9, iX9, hnX9⟩ := u_known (C := RX9) (T := TX9) (N := 6) (n := 6) hts0 inX9 (hts0 _ wi_instX9)
  obtain ⟨cX10, iX10, hnX10⟩ := u_known (C := RX10) (T := TX10) (N := 38) (n := 38) hts0 inX10 (hts0 _ wi_instX10)
  obtain ⟨D, hKc⟩ : ∃ D : va_G, ∀ (k : Nat) (q : vw_C), vwCl[k]? = some q → u_Kn s q.1 q.2.1 q.2.2 (D.1 k) (D.2 k) := by
    refine ⟨(fun k => [cX0, cX1, cX2, cX3, cX4, cX5, cX6, cX7, cX8, cX9, cX10].getD k 0, fun k => [iX0, iX1, iX2, iX3, iX4, iX5, iX6, iX7, iX8, iX9, iX10].getD k (fun _ => 0)), ?_⟩
    intro k q hq
    match k, hq with
    | 0, hq => cases hq; exact hnX0
    | 1, hq => cases hq; exact hnX1
    | 2, hq => cases hq; exact hnX2
    | 3, hq => cases hq; exact hnX3
    | 4, hq => cases hq; exact hnX4
    | 5, hq => cases hq; exact hnX5
    | 6, hq => cases hq; exact hnX6
    | 7, hq => cases hq; exact hnX7
    | 8, hq => cases hq; exact hnX8
    | 9, hq => cases hq; exact hnX9
    | 10, hq => cases hq; exact hnX10
    | k + 11, hq => simp [vwCl] at hq
  have hK : va_K D vwCl [] s := ⟨hKc, fun k q h => by simp at h⟩
  have hcn : pt_cn s := ⟨fun q hq => va_Nw.of rfl (hts0 _ (wi_mn q hq)), va_AO.of (hts0 _ wi_ao)⟩
  have hnw : pt_nw s := fun q hq => va_Nw.of rfl (hts0 _ (wi_nf q hq))
  have hfl := flat_of_before _ hgv
  obtain ⟨z0, hz0, hT0⟩ := va_Tof (args := #[Value.ref b]) (s := s) (tm := (.static "PackThreads$Settings" "LEAST" "[I")) (ty := .int) (N := 4) (f := fun j => .int (pt_lo j)) (A := fun q : Nat => s.heap.size ≤ q) (by decide) (hfl _ (by decide +kernel)) (va_eqt (hfl (.eq (.length (.static "PackThreads$Settings" "LEAST" "[I")) (.int 4)) (by decide +kernel))) (fun j hj => by
    rcases (show j = 0 ∨ j = 1 ∨ j = 2 ∨ j = 3 by omega) with rfl | rfl | rfl | rfl
    · exact va_eqt (hfl (.eq (.elem (.static "PackThreads$Settings" "LEAST" "[I") (.int 0)) (.int 4)) (by decide +kernel))
    · exact va_eqt (hfl (.eq (.elem (.static "PackThreads$Settings" "LEAST" "[I") (.int 1)) (.int 0)) (by decide +kernel))
    · exact va_eqt (hfl (.eq (.elem (.static "PackThreads$Settings" "LEAST" "[I") (.int 2)) (.int 32)) (by decide +kernel))
    · exact va_eqt (hfl (.eq (.elem (.static "PackThreads$Settings" "LEAST" "[I") (.int 3)) (.int 1)) (by decide +kernel))) hnA
  have hZ0 := va_Zref (A := fun q : Nat => s.heap.size ≤ q) (hts0 _ wi_LEAST) (hts0 _ wi_iniS) hz0 hnA
  obtain ⟨z1, hz1, hT1⟩ := va_Tof (args := #[Value.ref b]) (s := s) (tm := (.static "PackThreads$Settings" "MOST" "[I")) (ty := .int) (N := 4) (f := fun j => .int (pt_hi j)) (A := fun q : Nat => s.heap.size ≤ q) (by decide) (hfl _ (by decide +kernel)) (va_eqt (hfl (.eq (.length (.static "PackThreads$Settings" "MOST" "[I")) (.int 4)) (by decide +kernel))) (fun j hj => by
    rcases (show j = 0 ∨ j = 1 ∨ j = 2 ∨ j = 3 by omega) with rfl | rfl | rfl | rfl
    · exact va_eqt (hfl (.eq (.elem (.static "PackThreads$Settings" "MOST" "[I") (.int 0)) (.int 32)) (by decide +kernel))
    · exact va_eqt (hfl (.eq (.elem (.static "PackThreads$Settings" "MOST" "[I") (.int 1)) (.int 64)) (by decide +kernel))
    · exact va_eqt (hfl (.eq (.elem (.static "PackThreads$Settings" "MOST" "[I") (.int 2)) (.int 200)) (by decide +kernel))
    · exact va_eqt (hfl (.eq (.elem (.static "PackThreads$Settings" "MOST" "[I") (.int 3)) (.int 8)) (by decide +kernel))) hnA
  have hZ1 := va_Zref (A := fun q : Nat => s.heap.size ≤ q) (hts0 _ wi_MOST) (hts0 _ wi_iniS) hz1 hnA
  have hZ : pt_Zs (z0, z1) (fun q : Nat => s.heap.size ≤ q) s s.heap := ⟨hZ0, hT0, hZ1, hT1⟩
  have hS : va_S (fun q : Nat => s.heap.size ≤ q) s.heap s.heap [] := va_S.rf
  have hP : va_P D vwCl [] s.heap := fun k q h => by simp at h
  have hD : va_D (fun q : Nat => s.heap.size ≤ q) [] := ⟨fun i j p q h => by simp at h, fun k q h => by simp at h⟩
  have hl := lv_entry ([.ref b]) (n := 4) (Nat.le_of_ble_eq_true rfl)
  rw [lg_entry_eq]
  generalize (lg_sl ([.ref b]) ++ List.replicate (4 - (lg_sl ([.ref b])).length) Slot.unset).toArray = ls at hl ⊢
  have hl : lv_has ls 4 [(0, .ref b)] := hl
  refine va_new (ci := 9) (fs := [.null, .null, .null, .null, .null, .int 0]) (C := RX9) (T := TX9) (N := 6) hx hb hts0 inX9 tyX9 tyX9_ok hown (hts (Cond.classLink RL 7 RX9) (List.mem_of_getElem? (i := 0) rfl)) (hts (Cond.instantiable RX9 6) (List.mem_of_getElem? (i := 1) rfl)) (hts (Cond.initialized RX9) (List.mem_of_getElem? (i := 2) rfl)) hK hP hD hS hA rfl (fun j hj => by rcases (show j = 0 ∨ j = 1 ∨ j = 2 ∨ j = 3 ∨ j = 4 ∨ j = 5 by omega) with rfl | rfl | rfl | rfl | rfl | rfl <;> rfl) (by show _ ≤ 600000; omega) (by show _ ≤ 7302250; omega) dL_law_0 (fun qc H hP hD hS => ?_)
  have hP : va_P D vwCl [(qc, .inr (9, [.null, .null, .null, .null, .null, .int 0]))] H := hP
  have hD : va_D (fun q : Nat => s.heap.size ≤ q) [(qc, .inr (9, [.null, .null, .null, .null, .null, .int 0]))] := hD
  refine lv_dup hx hb dL_law_3 rfl ?_
  have hPc := hP.sub (ws' := (w0_X9 qc)) [0] rfl
  have hDc := hD.sub (ws' := (w0_X9 qc)) [0] (by decide) rfl
  have hKc := hK.sub (tys' := []) [] rfl
  have hFc := va_free (wc := (w0_X9 qc)) hD hS hA [0] rfl
  refine va_callv (va_runI (As := []) (rest := [.ref qc]) ⟨hx, hb, hml, hown, hts⟩ (k_X9_init l qc H.size) (cwI 0 hts ggL_law_X9_init rfl rfl rfl (hts (Cond.initialized RX9) (List.mem_of_getElem? (i := 2) rfl)) (hts (Cond.methodLink RL 9 yX9_init) (List.mem_of_getElem? (i := 6) rfl)) (hts (Cond.instanceMethod yX9_init) (List.mem_of_getElem? (i := 7) rfl)) rfl (by decide +kernel) ⟨Nat.le_of_ble_eq_true rfl, Nat.le_of_ble_eq_true rfl⟩) ⟨pt_cblind, fun U hU hW => ⟨rfl, by rw [hU], by rw [hU]; exact hPc, va_K.moved hW.alike hKc, hDc.weaken (fun _ _ _ _ => trivial), hcn.moved hW⟩⟩ rfl rfl hl.1 rfl (lv_room (Nat.le_of_ble_eq_true rfl)) dL_law_4 ⟨by show _ ≤ 600000; omega, by show _ ≤ 7302250; omega⟩) hS (fun q _ h => hFc q h) hFc (fun uc t H1 locs ht hvm hw hB hz1 hk1 hS => ?_)
  obtain ⟨hP1, hK1, hD1⟩ := hB
  rw [ht] at hP1
  have hK1 := va_K.moved hvm.symm hK1
  obtain ⟨hP, hD⟩ := va_join (wr := []) (w1 := w1_X9 qc uc.1 uc.2) hP hD [0] [] rfl rfl (by decide) (by decide) hk1 hFc hP1 hD1
  have hK := (hK.sub (tys' := []) [] rfl).app hK1
  generalize H1 = H at hP hS ⊢
  have hP : va_P D vwCl [(qc, .inr (9, [.ref (uc.1 0), .ref (uc.1 2), .ref (uc.1 3), .ref (uc.1 7), .ref (uc.1 11), .int 0])), ((uc.1 0), .inr (7, [.ref (uc.1 1), .int 0])), ((uc.1 1), .inl ((uc.2 0), 160, .inl (fun _ => 0))), ((uc.1 2), .inr (5, [.int 8, .int 16, .int 64, .int 2])), ((uc.1 3), .inr (3, [.ref (uc.1 4), .ref (uc.1 5), .ref (uc.1 6)])), ((uc.1 4), .inl ((uc.2 1), 40, .inl (fun _ => 0))), ((uc.1 5), .inl ((uc.2 2), 40, .inl (fun _ => 0))), ((uc.1 6), .inl ((uc.2 3), 40, .inl (fun _ => 0))), ((uc.1 7), .inr (2, [.ref (uc.1 0), .ref (uc.1 2), .ref (uc.1 8), .ref (uc.1 9), .ref (uc.1 10), .int 0, .int 0, .int 0, .int 0])), ((uc.1 8), .inl ((uc.2 4), 240, .inl (fun _ => 0))), ((uc.1 9), .inl ((uc.2 5), 40, .inl (fun _ => 0))), ((uc.1 10), .inl ((uc.2 6), 40, .inl (fun _ => 0))), ((uc.1 11), .inr (6, [.ref (uc.1 7), .ref (uc.1 3), .ref (uc.1 12), .ref (uc.1 13), .ref (uc.1 15), .ref (uc.1 17), .int 0, .int 0, .int 0, .int 0, .int 0, .int 0, .int 0])), ((uc.1 12), .inl ((uc.2 7), 6, .inr (.inr (.inr (.inr (va_up (va_up (va_up (va_up (va_up (va_up (fun _ => none) ((0 : Int32).toNatClampNeg) (some (uc.1 20))) ((1 : Int32).toNatClampNeg) (some (uc.1 21))) ((2 : Int32).toNatClampNeg) (some (uc.1 22))) ((3 : Int32).toNatClampNeg) (some (uc.1 23))) ((4 : Int32).toNatClampNeg) (some (uc.1 24))) ((5 : Int32).toNatClampNeg) (some (uc.1 25)))))))), ((uc.1 13), .inr (1, [.ref (uc.1 14), .int 0, .int 0])), ((uc.1 14), .inl ((uc.2 8), 6, .inr (.inr (.inr (.inr (fun _ => none)))))), ((uc.1 15), .inr (4, [.ref (uc.1 16), .int 0, .int 0, .int 0])), ((uc.1 16), .inl ((uc.2 9), 40, .inl (fun _ => 0))), ((uc.1 17), .inr (0, [.ref (uc.1 18), .ref (uc.1 19), .int 0])), ((uc.1 18), .inl ((uc.2 10), 40, .inl (fun _ => 0))), ((uc.1 19), .inl ((uc.2 11), 40, .inl (fun _ => 0))), ((uc.1 20), .inr (8, [.int 0, .int 0, .int 0, .int 0, .int 0, .int 0, .int 0, .int 0])), ((uc.1 21), .inr (8, [.int 1, .int 0, .int 0, .int 0, .int 0, .int 0, .int 0, .int 0])), ((uc.1 22), .inr (8, [.int 2, .int 0, .int 0, .int 0, .int 0, .int 0, .int 0, .int 0])), ((uc.1 23), .inr (8, [.int 3, .int 0, .int 0, .int 0, .int 0, .int 0, .int 0, .int 0])), ((uc.1 24), .inr (8, [.int 4, .int 0, .int 0, .int 0, .int 0, .int 0, .int 0, .int 0])), ((uc.1 25), .inr (8, [.int 5, .int 0, .int 0, .int 0, .int 0, .int 0, .int 0, .int 0]))] H := hP
  have hD : va_D (fun q : Nat => s.heap.size ≤ q) [(qc, .inr (9, [.ref (uc.1 0), .ref (uc.1 2), .ref (uc.1 3), .ref (uc.1 7), .ref (uc.1 11), .int 0])), ((uc.1 0), .inr (7, [.ref (uc.1 1), .int 0])), ((uc.1 1), .inl ((uc.2 0), 160, .inl (fun _ => 0))), ((uc.1 2), .inr (5, [.int 8, .int 16, .int 64, .int 2])), ((uc.1 3), .inr (3, [.ref (uc.1 4), .ref (uc.1 5), .ref (uc.1 6)])), ((uc.1 4), .inl ((uc.2 1), 40, .inl (fun _ => 0))), ((uc.1 5), .inl ((uc.2 2), 40, .inl (fun _ => 0))), ((uc.1 6), .inl ((uc.2 3), 40, .inl (fun _ => 0))), ((uc.1 7), .inr (2, [.ref (uc.1 0), .ref (uc.1 2), .ref (uc.1 8), .ref (uc.1 9), .ref (uc.1 10), .int 0, .int 0, .int 0, .int 0])), ((uc.1 8), .inl ((uc.2 4), 240, .inl (fun _ => 0))), ((uc.1 9), .inl ((uc.2 5), 40, .inl (fun _ => 0))), ((uc.1 10), .inl ((uc.2 6), 40, .inl (fun _ => 0))), ((uc.1 11), .inr (6, [.ref (uc.1 7), .ref (uc.1 3), .ref (uc.1 12), .ref (uc.1 13), .ref (uc.1 15), .ref (uc.1 17), .int 0, .int 0, .int 0, .int 0, .int 0, .int 0, .int 0])), ((uc.1 12), .inl ((uc.2 7), 6, .inr (.inr (.inr (.inr (va_up (va_up (va_up (va_up (va_up (va_up (fun _ => none) ((0 : Int32).toNatClampNeg) (some (uc.1 20))) ((1 : Int32).toNatClampNeg) (some (uc.1 21))) ((2 : Int32).toNatClampNeg) (some (uc.1 22))) ((3 : Int32).toNatClampNeg) (some (uc.1 23))) ((4 : Int32).toNatClampNeg) (some (uc.1 24))) ((5 : Int32).toNatClampNeg) (some (uc.1 25)))))))), ((uc.1 13), .inr (1, [.ref (uc.1 14), .int 0, .int 0])), ((uc.1 14), .inl ((uc.2 8), 6, .inr (.inr (.inr (.inr (fun _ => none)))))), ((uc.1 15), .inr (4, [.ref (uc.1 16), .int 0, .int 0, .int 0])), ((uc.1 16), .inl ((uc.2 9), 40, .inl (fun _ => 0))), ((uc.1 17), .inr (0, [.ref (uc.1 18), .ref (uc.1 19), .int 0])), ((uc.1 18), .inl ((uc.2 10), 40, .inl (fun _ => 0))), ((uc.1 19), .inl ((uc.2 11), 40, .inl (fun _ => 0))), ((uc.1 20), .inr (8, [.int 0, .int 0, .int 0, .int 0, .int 0, .int 0, .int 0, .int 0])), ((uc.1 21), .inr (8, [.int 1, .int 0, .int 0, .int 0, .int 0, .int 0, .int 0, .int 0])), ((uc.1 22), .inr (8, [.int 2, .int 0, .int 0, .int 0, .int 0, .int 0, .int 0, .int 0])), ((uc.1 23), .inr (8, [.int 3, .int 0, .int 0, .int 0, .int 0, .int 0, .int 0, .int 0])), ((uc.1 24), .inr (8, [.int 4, .int 0, .int 0, .int 0, .int 0, .int 0, .int 0, .int 0])), ((uc.1 25), .inr (8, [.int 5, .int 0, .int 0, .int 0, .int 0, .int 0, .int 0, .int 0]))] := hD
  have hK : va_K D vwCl [((uc.2 0), .int), ((uc.2 1), .int), ((uc.2 2), .int), ((uc.2 3), .boolean), ((uc.2 4), .int), ((uc.2 5), .int), ((uc.2 6), .int), ((uc.2 7), .object "PackThreads$Worker"), ((uc.2 8), .object "PackThreads$Worker"), ((uc.2 9), .boolean), ((uc.2 10), .boolean), ((uc.2 11), .int)] s := hK
  refine lv_astore_n (lv' := [(1, .ref qc), (0, .ref b)]) hx hb dL_law_7 rfl hl (by decide) rfl (fun ls hl => ?_)
  refine va_new (ci := 10) (fs := [.null, .int 0, .int 0, .int 0, .int 0, .int 0, .null, .null, .null, .int 0, .int 0, .null, .null, .null, .int 0, .int 0, .int 0, .null, .null, .null, .null, .null, .null, .int 0, .int 0, .null, .null, .int 0, .null, .int 0, .int 0, .int 0, .null, .int 0, .int 0, .int 0, .int 0, .int 0]) (C := RX10) (T := TX10) (N := 38) hx hb hts0 inX10 tyX10 tyX10_ok hown (hts (Cond.classLink RL 10 RX10) (List.mem_of_getElem? (i := 3) rfl)) (hts (Cond.instantiable RX10 38) (List.mem_of_getElem? (i := 4) rfl)) (hts (Cond.initialized RX10) (List.mem_of_getElem? (i := 5) rfl)) hK hP hD hS hA rfl (fun j hj => by rcases (show j = 0 ∨ j = 1 ∨ j = 2 ∨ j = 3 ∨ j = 4 ∨ j = 5 ∨ j = 6 ∨ j = 7 ∨ j = 8 ∨ j = 9 ∨ j = 10 ∨ j = 11 ∨ j = 12 ∨ j = 13 ∨ j = 14 ∨ j = 15 ∨ j = 16 ∨ j = 17 ∨ j = 18 ∨ j = 19 ∨ j = 20 ∨ j = 21 ∨ j = 22 ∨ j = 23 ∨ j = 24 ∨ j = 25 ∨ j = 26 ∨ j = 27 ∨ j = 28 ∨ j = 29 ∨ j = 30 ∨ j = 31 ∨ j = 32 ∨ j = 33 ∨ j = 34 ∨ j = 35 ∨ j = 36 ∨ j = 37 by omega) with rfl | rfl | rfl | rfl | rfl | rfl | rfl | rfl | rfl | rfl | rfl | rfl | rfl | rfl | rfl | rfl | rfl | rfl | rfl | rfl | rfl | rfl | rfl | rfl | rfl | rfl | rfl | rfl | rfl | rfl | rfl | rfl | rfl | rfl | rfl | rfl | rfl | rfl <;> rfl) (by show _ ≤ 600000; omega) (by show _ ≤ 7302250; omega) dL_law_8 (fun qr H hP hD hS => ?_)
  have hP : va_P D vwCl [(qc, .inr (9, [.ref (uc.1 0), .ref (uc.1 2), .ref (uc.1 3), .ref (uc.1 7), .ref (uc.1 11), .int 0])), ((uc.1 0), .inr (7, [.ref (uc.1 1), .int 0])), ((uc.1 1), .inl ((uc.2 0), 160, .inl (fun _ => 0))), ((uc.1 2), .inr (5, [.int 8, .int 16, .int 64, .int 2])), ((uc.1 3), .inr (3, [.ref (uc.1 4), .ref (uc.1 5), .ref (uc.1 6)])), ((uc.1 4), .inl ((uc.2 1), 40, .inl (fun _ => 0))), ((uc.1 5), .inl ((uc.2 2), 40, .inl (fun _ => 0))), ((uc.1 6), .inl ((uc.2 3), 40, .inl (fun _ => 0))), ((uc.1 7), .inr (2, [.ref (uc.1 0), .ref (uc.1 2), .ref (uc.1 8), .ref (uc.1 9), .ref (uc.1 10), .int 0, .int 0, .int 0, .int 0])), ((uc.1 8), .inl ((uc.2 4), 240, .inl (fun _ => 0))), ((uc.1 9), .inl ((uc.2 5), 40, .inl (fun _ => 0))), ((uc.1 10), .inl ((uc.2 6), 40, .inl (fun _ => 0))), ((uc.1 11), .inr (6, [.ref (uc.1 7), .ref (uc.1 3), .ref (uc.1 12), .ref (uc.1 13), .ref (uc.1 15), .ref (uc.1 17), .int 0, .int 0, .int 0, .int 0, .int 0, .int 0, .int 0])), ((uc.1 12), .inl ((uc.2 7), 6, .inr (.inr (.inr (.inr (va_up (va_up (va_up (va_up (va_up (va_up (fun _ => none) ((0 : Int32).toNatClampNeg) (some (uc.1 20))) ((1 : Int32).toNatClampNeg) (some (uc.1 21))) ((2 : Int32).toNatClampNeg) (some (uc.1 22))) ((3 : Int32).toNatClampNeg) (some (uc.1 23))) ((4 : Int32).toNatClampNeg) (some (uc.1 24))) ((5 : Int32).toNatClampNeg) (some (uc.1 25)))))))), ((uc.1 13), .inr (1, [.ref (uc.1 14), .int 0, .int 0])), ((uc.1 14), .inl ((uc.2 8), 6, .inr (.inr (.inr (.inr (fun _ => none)))))), ((uc.1 15), .inr (4, [.ref (uc.1 16), .int 0, .int 0, .int 0])), ((uc.1 16), .inl ((uc.2 9), 40, .inl (fun _ => 0))), ((uc.1 17), .inr (0, [.ref (uc.1 18), .ref (uc.1 19), .int 0])), ((uc.1 18), .inl ((uc.2 10), 40, .inl (fun _ => 0))), ((uc.1 19), .inl ((uc.2 11), 40, .inl (fun _ => 0))), ((uc.1 20), .inr (8, [.int 0, .int 0, .int 0, .int 0, .int 0, .int 0, .int 0, .int 0])), ((uc.1 21), .inr (8, [.int 1, .int 0, .int 0, .int 0, .int 0, .int 0, .int 0, .int 0])), ((uc.1 22), .inr (8, [.int 2, .int 0, .int 0, .int 0, .int 0, .int 0, .int 0, .int 0])), ((uc.1 23), .inr (8, [.int 3, .int 0, .int 0, .int 0, .int 0, .int 0, .int 0, .int 0])), ((uc.1 24), .inr (8, [.int 4, .int 0, .int 0, .int 0, .int 0, .int 0, .int 0, .int 0])), ((uc.1 25), .inr (8, [.int 5, .int 0, .int 0, .int 0, .int 0, .int 0, .int 0, .int 0])), (qr, .inr (10, [.null, .int 0, .int 0, .int 0, .int 0, .int 0, .null, .null, .null, .int 0, .int 0, .null, .null, .null, .int 0, .int 0, .int 0, .null, .null, .null, .null, .null, .null, .int 0, .int 0, .null, .null, .int 0, .null, .int 0, .int 0, .int 0, .null, .int 0, .int 0, .int 0, .int 0, .int 0]))] H := hP
  have hD : va_D (fun q : Nat => s.heap.size ≤ q) [(qc, .inr (9, [.ref (uc.1 0), .ref (uc.1 2), .ref (uc.1 3), .ref (uc.1 7), .ref (uc.1 11), .int 0])), ((uc.1 0), .inr (7, [.ref (uc.1 1), .int 0])), ((uc.1 1), .inl ((uc.2 0), 160, .inl (fun _ => 0))), ((uc.1 2), .inr (5, [.int 8, .int 16, .int 64, .int 2])), ((uc.1 3), .inr (3, [.ref (uc.1 4), .ref (uc.1 5), .ref (uc.1 6)])), ((uc.1 4), .inl ((uc.2 1), 40, .inl (fun _ => 0))), ((uc.1 5), .inl ((uc.2 2), 40, .inl (fun _ => 0))), ((uc.1 6), .inl ((uc.2 3), 40, .inl (fun _ => 0))), ((uc.1 7), .inr (2, [.ref (uc.1 0), .ref (uc.1 2), .ref (uc.1 8), .ref (uc.1 9), .ref (uc.1 10), .int 0, .int 0, .int 0, .int 0])), ((uc.1 8), .inl ((uc.2 4), 240, .inl (fun _ => 0))), ((uc.1 9), .inl ((uc.2 5), 40, .inl (fun _ => 0))), ((uc.1 10), .inl ((uc.2 6), 40, .inl (fun _ => 0))), ((uc.1 11), .inr (6, [.ref (uc.1 7), .ref (uc.1 3), .ref (uc.1 12), .ref (uc.1 13), .ref (uc.1 15), .ref (uc.1 17), .int 0, .int 0, .int 0, .int 0, .int 0, .int 0, .int 0])), ((uc.1 12), .inl ((uc.2 7), 6, .inr (.inr (.inr (.inr (va_up (va_up (va_up (va_up (va_up (va_up (fun _ => none) ((0 : Int32).toNatClampNeg) (some (uc.1 20))) ((1 : Int32).toNatClampNeg) (some (uc.1 21))) ((2 : Int32).toNatClampNeg) (some (uc.1 22))) ((3 : Int32).toNatClampNeg) (some (uc.1 23))) ((4 : Int32).toNatClampNeg) (some (uc.1 24))) ((5 : Int32).toNatClampNeg) (some (uc.1 25)))))))), ((uc.1 13), .inr (1, [.ref (uc.1 14), .int 0, .int 0])), ((uc.1 14), .inl ((uc.2 8), 6, .inr (.inr (.inr (.inr (fun _ => none)))))), ((uc.1 15), .inr (4, [.ref (uc.1 16), .int 0, .int 0, .int 0])), ((uc.1 16), .inl ((uc.2 9), 40, .inl (fun _ => 0))), ((uc.1 17), .inr (0, [.ref (uc.1 18), .ref (uc.1 19), .int 0])), ((uc.1 18), .inl ((uc.2 10), 40, .inl (fun _ => 0))), ((uc.1 19), .inl ((uc.2 11), 40, .inl (fun _ => 0))), ((uc.1 20), .inr (8, [.int 0, .int 0, .int 0, .int 0, .int 0, .int 0, .int 0, .int 0])), ((uc.1 21), .inr (8, [.int 1, .int 0, .int 0, .int 0, .int 0, .int 0, .int 0, .int 0])), ((uc.1 22), .inr (8, [.int 2, .int 0, .int 0, .int 0, .int 0, .int 0, .int 0, .int 0])), ((uc.1 23), .inr (8, [.int 3, .int 0, .int 0, .int 0, .int 0, .int 0, .int 0, .int 0])), ((uc.1 24), .inr (8, [.int 4, .int 0, .int 0, .int 0, .int 0, .int 0, .int 0, .int 0])), ((uc.1 25), .inr (8, [.int 5, .int 0, .int 0, .int 0, .int 0, .int 0, .int 0, .int 0])), (qr, .inr (10, [.null, .int 0, .int 0, .int 0, .int 0, .int 0, .null, .null, .null, .int 0, .int 0, .null, .null, .null, .int 0, .int 0, .int 0, .null, .null, .null, .null, .null, .null, .int 0, .int 0, .null, .null, .int 0, .null, .int 0, .int 0, .int 0, .null, .int 0, .int 0, .int 0, .int 0, .int 0]))] := hD
  refine lv_dup hx hb dL_law_11 rfl ?_
  have hPc := hP.sub (ws' := (w0_X10 qr)) [27] rfl
  have hDc := hD.sub (ws' := (w0_X10 qr)) [27] (by decide) rfl
  have hKc := hK.sub (tys' := []) [] rfl
  have hFc := va_free (wc := (w0_X10 qr)) hD hS hA [27] rfl
  refine va_callv (va_runI (As := []) (rest := [.ref qr]) ⟨hx, hb, hml, hown, hts⟩ (k_X10_init l qr H.size) (cwI 0 hts ggL_law_X10_init rfl rfl rfl (hts (Cond.initialized RX10) (List.mem_of_getElem? (i := 5) rfl)) (hts (Cond.methodLink RL 12 yX10_init) (List.mem_of_getElem? (i := 102) rfl)) (hts (Cond.instanceMethod yX10_init) (List.mem_of_getElem? (i := 103) rfl)) rfl (by decide +kernel) ⟨Nat.le_of_ble_eq_true rfl, Nat.le_of_ble_eq_true rfl⟩) ⟨pt_cblind, fun U hU hW => ⟨rfl, by rw [hU], by rw [hU]; exact hPc, va_K.moved hW.alike hKc, hDc.weaken (fun _ _ _ _ => trivial), hcn.moved hW⟩⟩ rfl rfl hl.1 rfl (lv_room (Nat.le_of_ble_eq_true rfl)) dL_law_12 ⟨by show _ ≤ 600000; omega, by show _ ≤ 7302250; omega⟩) hS (fun q _ h => hFc q h) hFc (fun ur t H1 locs ht hvm hw hB hz1 hk1 hS => ?_)
  obtain ⟨hP1, hK1, hD1⟩ := hB
  rw [ht] at hP1
  have hK1 := va_K.moved hvm.symm hK1
  obtain ⟨hP, hD⟩ := va_join (wr := [(qc, .inr (9, [.ref (uc.1 0), .ref (uc.1 2), .ref (uc.1 3), .ref (uc.1 7), .ref (uc.1 11), .int 0])), ((uc.1 0), .inr (7, [.ref (uc.1 1), .int 0])), ((uc.1 1), .inl ((uc.2 0), 160, .inl (fun _ => 0))), ((uc.1 2), .inr (5, [.int 8, .int 16, .int 64, .int 2])), ((uc.1 3), .inr (3, [.ref (uc.1 4), .ref (uc.1 5), .ref (uc.1 6)])), ((uc.1 4), .inl ((uc.2 1), 40, .inl (fun _ => 0))), ((uc.1 5), .inl ((uc.2 2), 40, .inl (fun _ => 0))), ((uc.1 6), .inl ((uc.2 3), 40, .inl (fun _ => 0))), ((uc.1 7), .inr (2, [.ref (uc.1 0), .ref (uc.1 2), .ref (uc.1 8), .ref (uc.1 9), .ref (uc.1 10), .int 0, .int 0, .int 0, .int 0])), ((uc.1 8), .inl ((uc.2 4), 240, .inl (fun _ => 0))), ((uc.1 9), .inl ((uc.2 5), 40, .inl (fun _ => 0))), ((uc.1 10), .inl ((uc.2 6), 40, .inl (fun _ => 0))), ((uc.1 11), .inr (6, [.ref (uc.1 7), .ref (uc.1 3), .ref (uc.1 12), .ref (uc.1 13), .ref (uc.1 15), .ref (uc.1 17), .int 0, .int 0, .int 0, .int 0, .int 0, .int 0, .int 0])), ((uc.1 12), .inl ((uc.2 7), 6, .inr (.inr (.inr (.inr (va_up (va_up (va_up (va_up (va_up (va_up (fun _ => none) ((0 : Int32).toNatClampNeg) (some (uc.1 20))) ((1 : Int32).toNatClampNeg) (some (uc.1 21))) ((2 : Int32).toNatClampNeg) (some (uc.1 22))) ((3 : Int32).toNatClampNeg) (some (uc.1 23))) ((4 : Int32).toNatClampNeg) (some (uc.1 24))) ((5 : Int32).toNatClampNeg) (some (uc.1 25)))))))), ((uc.1 13), .inr (1, [.ref (uc.1 14), .int 0, .int 0])), ((uc.1 14), .inl ((uc.2 8), 6, .inr (.inr (.inr (.inr (fun _ => none)))))), ((uc.1 15), .inr (4, [.ref (uc.1 16), .int 0, .int 0, .int 0])), ((uc.1 16), .inl ((uc.2 9), 40, .inl (fun _ => 0))), ((uc.1 17), .inr (0, [.ref (uc.1 18), .ref (uc.1 19), .int 0])), ((uc.1 18), .inl ((uc.2 10), 40, .inl (fun _ => 0))), ((uc.1 19), .inl ((uc.2 11), 40, .inl (fun _ => 0))), ((uc.1 20), .inr (8, [.int 0, .int 0, .int 0, .int 0, .int 0, .int 0, .int 0, .int 0])), ((uc.1 21), .inr (8, [.int 1, .int 0, .int 0, .int 0, .int 0, .int 0, .int 0, .int 0])), ((uc.1 22), .inr (8, [.int 2, .int 0, .int 0, .int 0, .int 0, .int 0, .int 0, .int 0])), ((uc.1 23), .inr (8, [.int 3, .int 0, .int 0, .int 0, .int 0, .int 0, .int 0, .int 0])), ((uc.1 24), .inr (8, [.int 4, .int 0, .int 0, .int 0, .int 0, .int 0, .int 0, .int 0])), ((uc.1 25), .inr (8, [.int 5, .int 0, .int 0, .int 0, .int 0, .int 0, .int 0, .int 0]))]) (w1 := w1_X10 qr ur.1 ur.2) hP hD [27] [0, 1, 2, 3, 4, 5, 6, 7, 8, 9, 10, 11, 12, 13, 14, 15, 16, 17, 18, 19, 20, 21, 22, 23, 24, 25, 26] rfl rfl (by decide) (by decide) hk1 hFc hP1 hD1
  have hK := (hK.sub (tys' := [((uc.2 0), .int), ((uc.2 1), .int), ((uc.2 2), .int), ((uc.2 3), .boolean), ((uc.2 4), .int), ((uc.2 5), .int), ((uc.2 6), .int), ((uc.2 7), .object "PackThreads$Worker"), ((uc.2 8), .object "PackThreads$Worker"), ((uc.2 9), .boolean), ((uc.2 10), .boolean), ((uc.2 11), .int)]) [0, 1, 2, 3, 4, 5, 6, 7, 8, 9, 10, 11] rfl).app hK1
  generalize H1 = H at hP hS ⊢
  refine lv_astore_n (lv' := [(2, .ref qr), (1, .ref qc), (0, .ref b)]) hx hb dL_law_15 rfl hl (by decide) rfl (fun ls hl => ?_)
  refine lv_iconst (v := 0) hx hb dL_law_16 (by decide) ?_
  refine lv_istore_n (lv' := [(3, .int 0), (2, .ref qr), (1, .ref qc), (0, .ref b)]) hx hb dL_law_17 rfl hl (by decide) rfl (fun ls hl => ?_)
  refine W.widen (k := 45) (n := 2087) (by omega) (by omega) ?_
  obtain ⟨ad, had⟩ : ∃ f : Nat → Nat, f = fun k => [qc, (uc.1 0), (uc.1 2), (uc.1 3), (uc.1 7), (uc.1 11), (uc.1 13), (uc.1 15), (uc.1 17), (uc.1 20), (uc.1 21), (uc.1 22), (uc.1 23), (uc.1 24), (uc.1 25), (uc.1 1), (uc.1 4), (uc.1 5), (uc.1 6), (uc.1 8), (uc.1 9), (uc.1 10), (uc.1 12), (uc.1 14), (uc.1 16), (uc.1 18), (uc.1 19)].getD k 0 := ⟨_, rfl⟩
  obtain ⟨br, hbr⟩ : ∃ f : Nat → Nat, f = fun k => [qr, (ur.1 0), (ur.1 1), (ur.1 2), (ur.1 3), (ur.1 4), (ur.1 5), (ur.1 6), (ur.1 7), (ur.1 8), (ur.1 9), (ur.1 10), (ur.1 11), (ur.1 12), (ur.1 13), (ur.1 14), (ur.1 15), (ur.1 16)].getD k 0 := ⟨_, rfl⟩
  obtain ⟨ca, hca⟩ : ∃ f : Nat → ClassId, f = fun k => [0, 0, 0, 0, 0, 0, 0, 0, 0, 0, 0, 0, 0, 0, 0, (uc.2 0), (uc.2 1), (uc.2 2), (uc.2 3), (uc.2 4), (uc.2 5), (uc.2 6), (uc.2 7), (uc.2 8), (uc.2 9), (uc.2 10), (uc.2 11)].getD k 0 := ⟨_, rfl⟩
  obtain ⟨cr, hcr⟩ : ∃ f : Nat → ClassId, f = fun k => [0, (ur.2 0), (ur.2 1), (ur.2 2), (ur.2 3), (ur.2 4), (ur.2 5), (ur.2 6), (ur.2 7), (ur.2 8), (ur.2 9), (ur.2 10), (ur.2 11), (ur.2 12), (ur.2 13), (ur.2 14), (ur.2 15), (ur.2 16)].getD k 0 := ⟨_, rfl⟩
  have hPl := hP.sub (ws' := (wC ca ad pt_s0).take 22) [0, 1, 3, 4, 8, 12, 14, 16, 18, 21, 22, 23, 24, 25, 26, 2, 5, 6, 7, 9, 10, 11] (by rw [had, hca]; rfl)
  have hPm := hP.sub (ws' := (wC ca ad pt_s0).drop 24) [17, 19, 20] (by rw [had, hca]; rfl)
  have hP22 := hP.sub (ws' := [((uc.1 12), .inl ((uc.2 7), 6, .inr (.inr (.inr (.inr (va_up (va_up (va_up (va_up (va_up (va_up (fun _ => none) ((0 : Int32).toNatClampNeg) (some (uc.1 20))) ((1 : Int32).toNatClampNeg) (some (uc.1 21))) ((2 : Int32).toNatClampNeg) (some (uc.1 22))) ((3 : Int32).toNatClampNeg) (some (uc.1 23))) ((4 : Int32).toNatClampNeg) (some (uc.1 24))) ((5 : Int32).toNatClampNeg) (some (uc.1 25))))))))]) [13] rfl
  have hP23 := hP.sub (ws' := [((uc.1 14), .inl ((uc.2 8), 6, .inr (.inr (.inr (.inr (fun _ => none))))))]) [15] rfl
  have hP22 := pt_P1 (g := fun j => some (ad (9 + j))) hP22 (fun j hj => by rw [had]; rcases (show j = 0 ∨ j = 1 ∨ j = 2 ∨ j = 3 ∨ j = 4 ∨ j = 5 by omega) with rfl | rfl | rfl | rfl | rfl | rfl <;> rfl)
  have hP23 := pt_P1 (g := fun j => pt_ln ad (pt_s0 23 j)) hP23 (fun j hj => (pt_lnN ad (x := -1) (by decide)).symm)
  have e22 : (uc.1 12) = ad 22 := by rw [had]; rfl
  have e23 : (uc.1 14) = ad 23 := by rw [had]; rfl
  have f22 : (uc.2 7) = ca 22 := by rw [hca]; rfl
  have f23 : (uc.2 8) = ca 23 := by rw [hca]; rfl
  rw [e22, f22] at hP22
  rw [e23, f23] at hP23
  have hPC : va_P D vwCl (wC ca ad pt_s0) H := hPl.app (hP22.app (hP23.app hPm))
  have hPR : va_P D vwCl (wR cr br pt_t0) H := hP.sub [27, 28, 29, 30, 31, 32, 33, 34, 35, 36, 37, 38, 39, 40, 41, 42, 43, 44] (by rw [hbr, hcr]; rfl)
  have hD2 : va_D (fun q : Nat => s.heap.size ≤ q) (wC ca ad pt_s0 ++ wR cr br pt_t0) := by
    have h1 := hD.sub (ws' := [(qc, .inr (9, [.ref (uc.1 0), .ref (uc.1 2), .ref (uc.1 3), .ref (uc.1 7), .ref (uc.1 11), .int 0])), ((uc.1 0), .inr (7, [.ref (uc.1 1), .int 0])), ((uc.1 2), .inr (5, [.int 8, .int 16, .int 64, .int 2])), ((uc.1 3), .inr (3, [.ref (uc.1 4), .ref (uc.1 5), .ref (uc.1 6)])), ((uc.1 7), .inr (2, [.ref (uc.1 0), .ref (uc.1 2), .ref (uc.1 8), .ref (uc.1 9), .ref (uc.1 10), .int 0, .int 0, .int 0, .int 0])), ((uc.1 11), .inr (6, [.ref (uc.1 7), .ref (uc.1 3), .ref (uc.1 12), .ref (uc.1 13), .ref (uc.1 15), .ref (uc.1 17), .int 0, .int 0, .int 0, .int 0, .int 0, .int 0, .int 0])), ((uc.1 13), .inr (1, [.ref (uc.1 14), .int 0, .int 0])), ((uc.1 15), .inr (4, [.ref (uc.1 16), .int 0, .int 0, .int 0])), ((uc.1 17), .inr (0, [.ref (uc.1 18), .ref (uc.1 19), .int 0])), ((uc.1 20), .inr (8, [.int 0, .int 0, .int 0, .int 0, .int 0, .int 0, .int 0, .int 0])), ((uc.1 21), .inr (8, [.int 1, .int 0, .int 0, .int 0, .int 0, .int 0, .int 0, .int 0])), ((uc.1 22), .inr (8, [.int 2, .int 0, .int 0, .int 0, .int 0, .int 0, .int 0, .int 0])), ((uc.1 23), .inr (8, [.int 3, .int 0, .int 0, .int 0, .int 0, .int 0, .int 0, .int 0])), ((uc.1 24), .inr (8, [.int 4, .int 0, .int 0, .int 0, .int 0, .int 0, .int 0, .int 0])), ((uc.1 25), .inr (8, [.int 5, .int 0, .int 0, .int 0, .int 0, .int 0, .int 0, .int 0])), ((uc.1 1), .inl ((uc.2 0), 160, .inl (fun _ => 0))), ((uc.1 4), .inl ((uc.2 1), 40, .inl (fun _ => 0))), ((uc.1 5), .inl ((uc.2 2), 40, .inl (fun _ => 0))), ((uc.1 6), .inl ((uc.2 3), 40, .inl (fun _ => 0))), ((uc.1 8), .inl ((uc.2 4), 240, .inl (fun _ => 0))), ((uc.1 9), .inl ((uc.2 5), 40, .inl (fun _ => 0))), ((uc.1 10), .inl ((uc.2 6), 40, .inl (fun _ => 0))), ((uc.1 12), .inl ((uc.2 7), 6, .inr (.inr (.inr (.inr (va_up (va_up (va_up (va_up (va_up (va_up (fun _ => none) ((0 : Int32).toNatClampNeg) (some (uc.1 20))) ((1 : Int32).toNatClampNeg) (some (uc.1 21))) ((2 : Int32).toNatClampNeg) (some (uc.1 22))) ((3 : Int32).toNatClampNeg) (some (uc.1 23))) ((4 : Int32).toNatClampNeg) (some (uc.1 24))) ((5 : Int32).toNatClampNeg) (some (uc.1 25)))))))), ((uc.1 14), .inl ((uc.2 8), 6, .inr (.inr (.inr (.inr (fun _ => none)))))), ((uc.1 16), .inl ((uc.2 9), 40, .inl (fun _ => 0))), ((uc.1 18), .inl ((uc.2 10), 40, .inl (fun _ => 0))), ((uc.1 19), .inl ((uc.2 11), 40, .inl (fun _ => 0))), (qr, .inr (10, [.ref (ur.1 0), .int 0, .int 8, .int 16, .int 64, .int 2, .ref (ur.1 1), .ref (ur.1 2), .ref (ur.1 3), .int 0, .int 0, .ref (ur.1 4), .ref (ur.1 5), .ref (ur.1 6), .int 0, .int 0, .int 0, .ref (ur.1 7), .ref (ur.1 8), .ref (ur.1 9), .ref (ur.1 10), .ref (ur.1 11), .ref (ur.1 12), .int 0, .int 0, .ref (ur.1 13), .ref (ur.1 14), .int 0, .ref (ur.1 15), .int 0, .int 0, .int 0, .ref (ur.1 16), .int 0, .int 0, .int 0, .int 0, .int 0])), ((ur.1 0), .inl ((ur.2 0), 160, .inl (fun _ => 0))), ((ur.1 1), .inl ((ur.2 1), 40, .inl (fun _ => 0))), ((ur.1 2), .inl ((ur.2 2), 40, .inl (fun _ => 0))), ((ur.1 3), .inl ((ur.2 3), 40, .inl (fun _ => 0))), ((ur.1 4), .inl ((ur.2 4), 700, .inl (fun _ => 0))), ((ur.1 5), .inl ((ur.2 5), 40, .inl (fun _ => 0))), ((ur.1 6), .inl ((ur.2 6), 40, .inl (fun _ => 0))), ((ur.1 7), .inl ((ur.2 7), 6, .inl (fun _ => 0))), ((ur.1 8), .inl ((ur.2 8), 6, .inl (fun _ => 0))), ((ur.1 9), .inl ((ur.2 9), 6, .inl (fun _ => 0))), ((ur.1 10), .inl ((ur.2 10), 6, .inl (fun _ => 0))), ((ur.1 11), .inl ((ur.2 11), 6, .inl (fun _ => 0))), ((ur.1 12), .inl ((ur.2 12), 6, .inl (fun _ => 0))), ((ur.1 13), .inl ((ur.2 13), 40, .inl (fun _ => 0))), ((ur.1 14), .inl ((ur.2 14), 40, .inl (fun _ => 0))), ((ur.1 15), .inl ((ur.2 15), 40, .inl (fun _ => 0))), ((ur.1 16), .inl ((ur.2 16), 6, .inl (fun _ => 0)))]) [0, 1, 3, 4, 8, 12, 14, 16, 18, 21, 22, 23, 24, 25, 26, 2, 5, 6, 7, 9, 10, 11, 13, 15, 17, 19, 20, 27, 28, 29, 30, 31, 32, 33, 34, 35, 36, 37, 38, 39, 40, 41, 42, 43, 44] (by decide) rfl
    exact pt_Dadr h1 (by rw [had, hbr, hca, hcr]; rfl)
  have hDC0 := pt_D_left hD2
  have hDR0 := pt_D_right hD2
  have hKC : pt_KK D (tysC ca) s := ⟨hK.sub [0, 1, 2, 3, 4, 5, 6, 7, 8, 9, 10, 11] (by rw [hca]; rfl), hnw⟩
  have hKR : pt_KK D (tysR cr) s := ⟨hK.sub [12, 13, 14, 15, 16, 17, 18, 19, 20, 21, 22, 23, 24, 25, 26, 27, 28] (by rw [hcr]; rfl), hnw⟩
  have e0 : qc = ad 0 := by rw [had]; rfl
  have e1 : qr = br 0 := by rw [hbr]; rfl
  have hl := lv_sub hl [3, 2, 1, 0] rfl
  rw [e0, e1] at hl
  exact law_loop hsim (AC := pt_ads (wC ca ad pt_s0)) (AR := pt_ads (wR cr br pt_t0)) (z := (z0, z1)) hL ⟨⟨hx, hb, hml, hown, hts⟩, hr, hlk, hX, hbl, hKC, hKR, hZ, fun σ => pt_Dadr (pt_D_own hDC0) rfl, fun τ => pt_Dadr (pt_D_own hDR0) rfl, fun q h => pt_ads_in hDC0 h, fun q h => pt_ads_in hDR0 h, fun q h1 h2 => pt_D_apart hD2 h1 h2⟩ (L + 1) 0 (Nat.zero_le L) (by omega) pt_s0 pt_t0 h0 H locs hPC hPR hS ls hl
