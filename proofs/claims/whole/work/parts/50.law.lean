/-! ===== what the two states keep, call by call: the law needs no more ===== -/
def pt_sim (Rl : pt_St → pt_St → Prop) : Prop :=
  (∀ (σ τ : pt_St) (a1 : Int32), Rl σ τ → ∃ (r : Int32) (σ' τ' : pt_St), f_X9_type σ a1 = some (r, σ') ∧ f_X10_type τ a1 = some (r, τ') ∧ Rl σ' τ') ∧
  (∀ (σ τ : pt_St) (a1 a2 : Int32), Rl σ τ → ∃ (r : Int32) (σ' τ' : pt_St), f_X9_set σ a1 a2 = some (r, σ') ∧ f_X10_set τ a1 a2 = some (r, τ') ∧ Rl σ' τ') ∧
  (∀ (σ τ : pt_St) (a1 a2 a3 a4 : Int32), Rl σ τ → (a4 = 0 ∨ a4 = 1) → ∃ (r : Int32) (σ' τ' : pt_St), f_X9_plant σ a1 a2 a3 a4 = some (r, σ') ∧ f_X10_plant τ a1 a2 a3 a4 = some (r, τ') ∧ Rl σ' τ') ∧
  (∀ (σ τ : pt_St) (a1 : Int32), Rl σ τ → ∃ (r : Int32) (σ' τ' : pt_St), f_X9_begin σ a1 = some (r, σ') ∧ f_X10_begin τ a1 = some (r, τ') ∧ Rl σ' τ') ∧
  (∀ (σ τ : pt_St) (a1 : Int32), Rl σ τ → ∃ (r : Int32) (σ' τ' : pt_St), f_X9_turn σ a1 = some (r, σ') ∧ f_X10_turn τ a1 = some (r, τ') ∧ Rl σ' τ') ∧
  (∀ (σ τ : pt_St) (a1 : Int32), Rl σ τ → ∃ (r : Int32) (σ' τ' : pt_St), f_X9_run σ a1 = some (r, σ') ∧ f_X10_run τ a1 = some (r, τ') ∧ Rl σ' τ') ∧
  (∀ (σ τ : pt_St) (a1 : Int32), Rl σ τ → ∃ (r : Int32) (σ' τ' : pt_St), f_X9_interrupt σ a1 = some (r, σ') ∧ f_X10_interrupt τ a1 = some (r, τ') ∧ Rl σ' τ') ∧
  (∀ (σ τ : pt_St) (a1 a2 : Int32), Rl σ τ → ∃ (r : Int32) (σ' τ' : pt_St), f_X9_thread σ a1 a2 = some (r, σ') ∧ f_X10_thread τ a1 a2 = some (r, τ') ∧ Rl σ' τ') ∧
  (∀ (σ τ : pt_St) (a1 : Int32), Rl σ τ → ∃ (r : Int32) (σ' τ' : pt_St), f_X9_out σ a1 = some (r, σ') ∧ f_X10_out τ a1 = some (r, τ') ∧ Rl σ' τ') ∧
  (∀ (σ τ : pt_St) (a1 : Int32), Rl σ τ → ∃ (r : Int32) (σ' τ' : pt_St), f_X9_told σ a1 = some (r, σ') ∧ f_X10_told τ a1 = some (r, τ') ∧ Rl σ' τ') ∧
  (∀ (σ τ : pt_St) (a1 : Int32), Rl σ τ → ∃ (r : Int32) (σ' τ' : pt_St), f_X9_waiting σ a1 = some (r, σ') ∧ f_X10_waiting τ a1 = some (r, τ') ∧ Rl σ' τ') ∧
  (∀ (σ τ : pt_St) (a1 : Int32), Rl σ τ → ∃ (r : Int32) (σ' τ' : pt_St), f_X9_plain σ a1 = some (r, σ') ∧ f_X10_plain τ a1 = some (r, τ') ∧ Rl σ' τ') ∧
  (∀ (σ τ : pt_St), Rl σ τ → ∃ (r : Int32) (σ' τ' : pt_St), f_X9_close σ = some (r, σ') ∧ f_X10_close τ = some (r, τ') ∧ Rl σ' τ') ∧
  (∀ (σ τ : pt_St), Rl σ τ → ∃ (r : Int32) (σ' τ' : pt_St), f_X9_clear σ = some (r, σ') ∧ f_X10_clear τ = some (r, τ') ∧ Rl σ' τ')

theorem pt_Dadr {A : Nat → Prop} {w w' : va_W} (h : va_D A w) (e : w'.map Prod.fst = w.map Prod.fst) : va_D A w' := by
  have key : ∀ (k : Nat) (q : Nat × va_E), w'[k]? = some q → ∃ q0, w[k]? = some q0 ∧ q0.1 = q.1 := by
    intro k q hk
    have h1 : (w'.map Prod.fst)[k]? = some q.1 := by rw [List.getElem?_map, hk]; rfl
    rw [e, List.getElem?_map] at h1
    cases hw : w[k]? with
    | none => rw [hw] at h1; cases h1
    | some q0 => rw [hw] at h1; exact ⟨q0, rfl, Option.some.inj h1⟩
  refine ⟨fun i j x y hi hj hxy => ?_, fun k q hk => ?_⟩
  · obtain ⟨x0, h1, h2⟩ := key i x hi
    obtain ⟨y0, h3, h4⟩ := key j y hj
    exact h.1 i j x0 y0 h1 h3 (h2.trans (hxy.trans h4.symm))
  · obtain ⟨q0, h1, h2⟩ := key k q hk
    rw [← h2]
    exact h.2 k q0 h1
/-- the addresses of a world -/
def pt_ads (w : va_W) : Nat → Prop := fun q => ∃ (k : Nat) (e : va_E), w[k]? = some (q, e)
theorem pt_D_own {A : Nat → Prop} {w : va_W} (h : va_D A w) : va_D (pt_ads w) w := ⟨h.1, fun k q hk => ⟨k, q.2, hk⟩⟩
theorem pt_ads_in {A : Nat → Prop} {w : va_W} (h : va_D A w) {q : Nat} (hq : pt_ads w q) : A q := by
  obtain ⟨k, e, hk⟩ := hq
  exact h.2 k (q, e) hk
theorem pt_D_left {A : Nat → Prop} {w1 w2 : va_W} (h : va_D A (w1 ++ w2)) : va_D A w1 := by
  have k1 : ∀ (k : Nat) (q : Nat × va_E), w1[k]? = some q → (w1 ++ w2)[k]? = some q := fun k q hk => by rw [List.getElem?_append_left (List.getElem?_eq_some_iff.mp hk).1]; exact hk
  exact ⟨fun i j x y hi hj hxy => h.1 i j x y (k1 i x hi) (k1 j y hj) hxy, fun k q hk => h.2 k q (k1 k q hk)⟩
theorem pt_D_right {A : Nat → Prop} {w1 w2 : va_W} (h : va_D A (w1 ++ w2)) : va_D A w2 := by
  have k1 : ∀ (k : Nat) (q : Nat × va_E), w2[k]? = some q → (w1 ++ w2)[w1.length + k]? = some q := fun k q hk => by rw [List.getElem?_append_right (by omega)]; rw [show w1.length + k - w1.length = k by omega]; exact hk
  refine ⟨fun i j x y hi hj hxy => ?_, fun k q hk => h.2 _ q (k1 k q hk)⟩
  have := h.1 _ _ x y (k1 i x hi) (k1 j y hj) hxy
  omega
theorem pt_D_apart {A : Nat → Prop} {w1 w2 : va_W} (h : va_D A (w1 ++ w2)) {q : Nat} (h1 : pt_ads w1 q) (h2 : pt_ads w2 q) : False := by
  obtain ⟨k, e1, hk⟩ := h1
  obtain ⟨j, e2, hj⟩ := h2
  have hl := (List.getElem?_eq_some_iff.mp hk).1
  have a1 : (w1 ++ w2)[k]? = some (q, e1) := by rw [List.getElem?_append_left hl]; exact hk
  have a2 : (w1 ++ w2)[w1.length + j]? = some (q, e2) := by rw [List.getElem?_append_right (by omega), show w1.length + j - w1.length = j by omega]; exact hj
  have := h.1 _ _ _ _ a1 a2 rfl
  omega
section LWC
variable {p : Program} {l : Launch} {e : Env} {R : Room} {s : State} {m : MethodId} {args : Array Value} {below : List Frame} {meth : Method} {c : Code} {H : Heap} {locs : List Loc} {cells slots : Nat} {Q : State → Prop}
variable {cc : ByteArray} {pc : Nat} {ls : Array Slot} {rest : List Value} {D : va_G} {A A1 : Nat → Prop} {tys : List (ClassId × FieldType)} {w w' w2 : va_W} {own : String} {Ts : List Cond} {nL : Nat}
variable {y : MethodName} {bytes : ByteArray} {maxL n index : Nat} {ret : Option FieldType} {ws : List Cond} {rm : Room} {b : Addr} {As st : List Value} {z : Nat × Nat} {r : Int32}
/-- a call of the law: the other object's world stays -/
theorem lw_cV {C : String} {T : u_T} {N : Nat} (S : CallFix p m c cc nL s args Ts own) (hM : Met l y ws rm (va_Pc (.ref b :: As) (pt_Pre D tys z A1 w)) (pt_Q (some (.int r)) D w' A1) 0 0 A1) (cw : CallW R s args own C index y bytes maxL ret ws rm 0 0 n) (hK : pt_KK D tys s) (hP : va_P D vwCl w H) (hP2 : va_P D vwCl w2 H) (h2 : ∀ q, pt_ads w2 q → ¬ A1 q) (hS : va_S A s.heap H locs) (hZ : pt_Zs z A s s.heap) (hA : ∀ q, A1 q → A q) (q0 ci : Nat) {fs : List Value} (he : w[q0]? = some (b, .inr (ci, fs))) (hc : vwCl[ci]? = some (C, T, N)) (hn : As.length = n) (hl : ls.size = nL) (hst : st = As.reverse ++ .ref b :: rest) (hroom : (rest.map fun v => v.category).sum ≤ 8) (hdg : decode cc pc = .ok (.invokevirtual index, 3)) (hcs : cells ≤ R.cells ∧ slots ≤ R.slots)
    (kk : ∀ (H1 : Heap) (locs1 : List Loc), va_P D vwCl w' H1 → va_P D vwCl w2 H1 → va_S A s.heap H1 locs1 → W p l e R s m args below meth c H1 locs1 cells slots Q (F0 m (pc + 3) ls (.int r :: rest))) : W p l e R s m args below meth c H locs cells slots Q (F0 m pc ls st) :=
  pt_run (va_runV S hM cw ⟨pt_blind, va_recv hK.1 hP hc he, fun U hU hW => ⟨rfl, by rw [hU]; exact hP, hK.moved hW, by rw [hU]; exact ((hZ.kept hS.2.1).moved hW.alike).narrow hA⟩⟩ rfl hn hl hst (lv_room hroom) hdg hcs) hS hA (fun H1 locs1 hP1 hS1 _ hk => kk H1 locs1 hP1 (hP2.kept (fun k q hq => hk q.1 ((hP2 k q hq).lt) (h2 q.1 ⟨k, q.2, hq⟩))) hS1)
end LWC
theorem lw_ix {j k L : Nat} {v : Int32} (hv : v = nI k) (h : j + k < L) (hL : L ≤ 2560) : vp_in (nI j + v) L := by
  rw [hv, nI_add]
  exact vp_in_nI h (by omega)
/-- what the law holds at its loop: the words, the script, the two worlds and what keeps them apart -/
def lw_In (p : Program) (s : State) (m : MethodId) (meth : Method) (c : Code) (b L : Nat) (xs : Nat → Int32) (D : va_G) (ca cr : Nat → ClassId) (ad br : Nat → Nat) (z : Nat × Nat) (AC AR : Nat → Prop) : Prop :=
  CallFix p m c cL_law 4 s #[Value.ref b] wsL_law RL ∧ meth.sig.returnType = ret ∧ meth.locks = false ∧ va_X b L xs s s.heap ∧ b < s.heap.size ∧ pt_KK D (tysC ca) s ∧ pt_KK D (tysR cr) s ∧ pt_Zs z (fun q => s.heap.size ≤ q) s s.heap ∧
  (∀ σ, va_D AC (wC ca ad σ)) ∧ (∀ τ, va_D AR (wR cr br τ)) ∧ (∀ q, AC q → s.heap.size ≤ q) ∧ (∀ q, AR q → s.heap.size ≤ q) ∧ (∀ q, AC q → AR q → False)
set_option maxHeartbeats 8000000 in
set_option maxRecDepth 100000 in
/-- the law's loop, for any relation that the calls keep -/
theorem law_loop {Rl : pt_St → pt_St → Prop} (hsim : pt_sim Rl) {p : Program} {l : Launch} {e : Env} {s : State} {m : MethodId} {below : List Frame} {meth : Method} {c : Code} {b L : Nat} {xs : Nat → Int32} {D : va_G} {ca cr : Nat → ClassId} {ad br : Nat → Nat} {z : Nat × Nat} {AC AR : Nat → Prop} (hL : L ≤ 2560) (C0 : lw_In p s m meth c b L xs D ca cr ad br z AC AR) : ∀ (n j : Nat), j ≤ L → L - j < n → ∀ (σ τ : pt_St), Rl σ τ → ∀ (H : Heap) (locs : List Loc), va_P D vwCl (wC ca ad σ) H → va_P D vwCl (wR cr br τ) H → va_S (fun q => s.heap.size ≤ q) s.heap H locs → ∀ ls : Array Slot, lv_has ls 4 [(0, .ref b), (1, .ref (ad 0)), (2, .ref (br 0)), (3, .int (nI j))] → W p l e room_1 s m #[Value.ref b] below meth c H locs 45 2087 (lw_Z below #[Value.ref b] s) (F0 m 18 ls []) := by
  obtain ⟨S, hr, hlk, hX, hbl, hKC, hKR, hZ, hDC, hDR, hCA, hRA, hap⟩ := C0
  have hx := S.1
  have hb := S.2.1
  have hbA : ¬ (fun q : Nat => s.heap.size ≤ q) b := Nat.not_le.mpr hbl
  have hcs : 45 ≤ room_1.cells ∧ 2087 ≤ room_1.slots := ⟨by show 45 ≤ 600000; omega, by show 2087 ≤ 7302250; omega⟩
  have hadC : ∀ (σ : pt_St) (q : Nat), pt_ads (wC ca ad σ) q → ¬ AR q := fun σ q h1 h2 => hap q (pt_ads_in (hDC σ) h1) h2
  have hadR : ∀ (τ : pt_St) (q : Nat), pt_ads (wR cr br τ) q → ¬ AC q := fun τ q h1 h2 => hap q h2 (pt_ads_in (hDR τ) h1)
  intro n
  induction n with
  | zero => intro j h1 h2; omega
  | succ n ih =>
    intro j hj hn σ τ hRl H locs hPc hPr hS ls hl
    refine lv_iload_n hx hb dL_law_18 rfl (lv_at hl 3 rfl) ?_
    refine lv_aload_n hx hb dL_law_19 rfl (lv_at hl 0 rfl) ?_
    refine va_slen hx hb hX hbl hbA hS dL_law_20 ?_
    refine lv_iconst (v := 5) hx hb dL_law_21 (by decide) ?_
    refine lv_isub hx hb dL_law_22 ?_
    have hj5 : (nI j).toInt = (j : Int) := nI_toInt (by omega)
    have hL5 : (Int32.ofNat L - 5).toInt = (L : Int) - 5 := by
      have h1 : (Int32.ofNat L).toInt = (L : Int) := nI_toInt (by omega)
      have h2 : (5 : Int32).toInt = 5 := by decide
      rw [Int32.toInt_sub, h1, h2, Int.bmod_def]; omega
    refine lv_icmp_gt (tgt := 478) hx hb dL_law_23 (by decide) (fun c1 => ?_) (fun c1 => ?_)
    · refine lv_iconst (v := 1) hx hb dL_law_478 (by decide) ?_
      refine va_forget hS.2.2 ?_
      refine W.widen (k := 600000) (n := 7302250) (by omega) (by omega) ?_
      exact lw_ret hx hb hr hlk dL_law_479
    · have hjL : j + 5 ≤ L := by
        rw [Int32.lt_iff_toInt_lt] at c1; omega
      have K472 : ∀ (σ τ : pt_St) (H : Heap) (locs : List Loc) (_ : Unit), va_P D vwCl (wC ca ad σ) H → va_P D vwCl (wR cr br τ) H → va_S (fun q => s.heap.size ≤ q) s.heap H locs → Rl σ τ → ∀ ls : Array Slot, lv_has ls 4 [(0, .ref b), (1, .ref (ad 0)), (2, .ref (br 0)), (3, .int (nI j))] → W p l e room_1 s m #[Value.ref b] below meth c H locs 45 2087 (lw_Z below #[Value.ref b] s) (F0 m 472 ls []) := by
        intro σ τ H locs _ hPc hPr hS hRl ls hl
        refine lv_iinc (v := nI (j + 5)) (lv' := [(3, .int (nI (j + 5))), (0, .ref b), (1, .ref (ad 0)), (2, .ref (br 0))]) hx hb dL_law_472 hl (k := 3) rfl (nI_add j 5) (by decide) rfl (fun ls hl => ?_)
        refine lv_goto (tgt := 18) hx hb dL_law_475 (by decide) ?_
        exact ih (j + 5) hjL (by omega) σ τ hRl H locs hPc hPr hS ls (lv_sub hl [1, 2, 3, 0] rfl)
      have hRC := hadR τ
      refine lv_aload_n hx hb dL_law_26 rfl (lv_at hl 0 rfl) ?_
      refine lv_iload_n hx hb dL_law_27 rfl (lv_at hl 3 rfl) ?_
      refine va_sld hx hb hX hbl hbA hS (vp_in_nI (by omega) (by omega)) dL_law_28 ?_
      refine lv_bipush (v := 15) hx hb dL_law_29 (by decide) ?_
      refine lv_iand hx hb dL_law_31 ?_
      refine lv_topi (fun op hop => ?_)
      by_cases o0 : op = 0
      · refine lv_tableIn (off := 72) (tgt := 104) hx hb dL_law_32 (by rw [o0]; decide) (by rw [o0]; decide) (by rw [o0]; rfl) (by decide) ?_
        refine lv_aload_n hx hb dL_law_104 rfl (lv_at hl 1 rfl) ?_
        refine lv_aload_n hx hb dL_law_105 rfl (lv_at hl 0 rfl) ?_
        refine lv_iload_n hx hb dL_law_106 rfl (lv_at hl 3 rfl) ?_
        refine lv_iconst (v := 1) hx hb dL_law_107 (by decide) ?_
        refine lv_iadd hx hb dL_law_108 ?_
        refine va_sld hx hb hX hbl hbA hS (lw_ix (k := 1) rfl (by omega) hL) dL_law_109 ?_
        obtain ⟨r, σ', τ', e1, e2, hRl⟩ := hsim.1 σ τ (xs (nI j + 1).toNatClampNeg) hRl
        have hCR := hadC σ'
        refine lw_cV (As := [.int (xs (nI j + 1).toNatClampNeg)]) (rest := []) S (m_X9_type l hDC e1) (cwV 1 S.2.2.2.2 gL_law_X9_type rfl rfl rfl (by decide +kernel) ⟨Nat.le_of_ble_eq_true rfl, Nat.le_of_ble_eq_true rfl⟩) hKC hPc hPr hRC hS hZ hCA 0 9 rfl rfl rfl hl.1 rfl (Nat.le_of_ble_eq_true rfl) dL_law_110 hcs (fun H locs hPc hPr hS => ?_)
        refine lv_aload_n hx hb dL_law_113 rfl (lv_at hl 2 rfl) ?_
        refine lv_aload_n hx hb dL_law_114 rfl (lv_at hl 0 rfl) ?_
        refine lv_iload_n hx hb dL_law_115 rfl (lv_at hl 3 rfl) ?_
        refine lv_iconst (v := 1) hx hb dL_law_116 (by decide) ?_
        refine lv_iadd hx hb dL_law_117 ?_
        refine va_sld hx hb hX hbl hbA hS (lw_ix (k := 1) rfl (by omega) hL) dL_law_118 ?_
        refine lw_cV (As := [.int (xs (nI j + 1).toNatClampNeg)]) (rest := [.int r]) S (m_X10_type l hDR e2) (cwV 1 S.2.2.2.2 gL_law_X10_type rfl rfl rfl (by decide +kernel) ⟨Nat.le_of_ble_eq_true rfl, Nat.le_of_ble_eq_true rfl⟩) hKR hPr hPc hCR hS hZ hRA 0 10 rfl rfl rfl hl.1 rfl (Nat.le_of_ble_eq_true rfl) dL_law_119 hcs (fun H locs hPr hPc hS => ?_)
        refine lv_icmp_eq (tgt := 472) hx hb dL_law_122 (by decide) (fun _ => ?_) (fun c => absurd rfl c)
        exact K472 _ _ _ _ () hPc hPr hS hRl ls hl
      by_cases o1 : op = 1
      · refine lv_tableIn (off := 95) (tgt := 127) hx hb dL_law_32 (by rw [o1]; decide) (by rw [o1]; decide) (by rw [o1]; rfl) (by decide) ?_
        refine lv_aload_n hx hb dL_law_127 rfl (lv_at hl 1 rfl) ?_
        refine lv_aload_n hx hb dL_law_128 rfl (lv_at hl 0 rfl) ?_
        refine lv_iload_n hx hb dL_law_129 rfl (lv_at hl 3 rfl) ?_
        refine lv_iconst (v := 1) hx hb dL_law_130 (by decide) ?_
        refine lv_iadd hx hb dL_law_131 ?_
        refine va_sld hx hb hX hbl hbA hS (lw_ix (k := 1) rfl (by omega) hL) dL_law_132 ?_
        refine lv_aload_n hx hb dL_law_133 rfl (lv_at hl 0 rfl) ?_
        refine lv_iload_n hx hb dL_law_134 rfl (lv_at hl 3 rfl) ?_
        refine lv_iconst (v := 2) hx hb dL_law_135 (by decide) ?_
        refine lv_iadd hx hb dL_law_136 ?_
        refine va_sld hx hb hX hbl hbA hS (lw_ix (k := 2) rfl (by omega) hL) dL_law_137 ?_
        obtain ⟨r, σ', τ', e1, e2, hRl⟩ := hsim.2.1 σ τ (xs (nI j + 1).toNatClampNeg) (xs (nI j + 2).toNatClampNeg) hRl
        have hCR := hadC σ'
        refine lw_cV (As := [.int (xs (nI j + 1).toNatClampNeg), .int (xs (nI j + 2).toNatClampNeg)]) (rest := []) S (m_X9_set l hDC e1) (cwV 2 S.2.2.2.2 gL_law_X9_set rfl rfl rfl (by decide +kernel) ⟨Nat.le_of_ble_eq_true rfl, Nat.le_of_ble_eq_true rfl⟩) hKC hPc hPr hRC hS hZ hCA 0 9 rfl rfl rfl hl.1 rfl (Nat.le_of_ble_eq_true rfl) dL_law_138 hcs (fun H locs hPc hPr hS => ?_)
        refine lv_aload_n hx hb dL_law_141 rfl (lv_at hl 2 rfl) ?_
        refine lv_aload_n hx hb dL_law_142 rfl (lv_at hl 0 rfl) ?_
        refine lv_iload_n hx hb dL_law_143 rfl (lv_at hl 3 rfl) ?_
        refine lv_iconst (v := 1) hx hb dL_law_144 (by decide) ?_
        refine lv_iadd hx hb dL_law_145 ?_
        refine va_sld hx hb hX hbl hbA hS (lw_ix (k := 1) rfl (by omega) hL) dL_law_146 ?_
        refine lv_aload_n hx hb dL_law_147 rfl (lv_at hl 0 rfl) ?_
        refine lv_iload_n hx hb dL_law_148 rfl (lv_at hl 3 rfl) ?_
        refine lv_iconst (v := 2) hx hb dL_law_149 (by decide) ?_
        refine lv_iadd hx hb dL_law_150 ?_
        refine va_sld hx hb hX hbl hbA hS (lw_ix (k := 2) rfl (by omega) hL) dL_law_151 ?_
        refine lw_cV (As := [.int (xs (nI j + 1).toNatClampNeg), .int (xs (nI j + 2).toNatClampNeg)]) (rest := [.int r]) S (m_X10_set l hDR e2) (cwV 2 S.2.2.2.2 gL_law_X10_set rfl rfl rfl (by decide +kernel) ⟨Nat.le_of_ble_eq_true rfl, Nat.le_of_ble_eq_true rfl⟩) hKR hPr hPc hCR hS hZ hRA 0 10 rfl rfl rfl hl.1 rfl (Nat.le_of_ble_eq_true rfl) dL_law_152 hcs (fun H locs hPr hPc hS => ?_)
        refine lv_icmp_eq (tgt := 472) hx hb dL_law_155 (by decide) (fun _ => ?_) (fun c => absurd rfl c)
        exact K472 _ _ _ _ () hPc hPr hS hRl ls hl
      by_cases o2 : op = 2
      · refine lv_tableIn (off := 128) (tgt := 160) hx hb dL_law_32 (by rw [o2]; decide) (by rw [o2]; decide) (by rw [o2]; rfl) (by decide) ?_
        refine lv_aload_n hx hb dL_law_160 rfl (lv_at hl 1 rfl) ?_
        refine lv_aload_n hx hb dL_law_161 rfl (lv_at hl 0 rfl) ?_
        refine lv_iload_n hx hb dL_law_162 rfl (lv_at hl 3 rfl) ?_
        refine lv_iconst (v := 1) hx hb dL_law_163 (by decide) ?_
        refine lv_iadd hx hb dL_law_164 ?_
        refine va_sld hx hb hX hbl hbA hS (lw_ix (k := 1) rfl (by omega) hL) dL_law_165 ?_
        refine lv_aload_n hx hb dL_law_166 rfl (lv_at hl 0 rfl) ?_
        refine lv_iload_n hx hb dL_law_167 rfl (lv_at hl 3 rfl) ?_
        refine lv_iconst (v := 2) hx hb dL_law_168 (by decide) ?_
        refine lv_iadd hx hb dL_law_169 ?_
        refine va_sld hx hb hX hbl hbA hS (lw_ix (k := 2) rfl (by omega) hL) dL_law_170 ?_
        refine lv_aload_n hx hb dL_law_171 rfl (lv_at hl 0 rfl) ?_
        refine lv_iload_n hx hb dL_law_172 rfl (lv_at hl 3 rfl) ?_
        refine lv_iconst (v := 3) hx hb dL_law_173 (by decide) ?_
        refine lv_iadd hx hb dL_law_174 ?_
        refine va_sld hx hb hX hbl hbA hS (lw_ix (k := 3) rfl (by omega) hL) dL_law_175 ?_
        refine lv_aload_n hx hb dL_law_176 rfl (lv_at hl 0 rfl) ?_
        refine lv_iload_n hx hb dL_law_177 rfl (lv_at hl 3 rfl) ?_
        refine lv_iconst (v := 4) hx hb dL_law_178 (by decide) ?_
        refine lv_iadd hx hb dL_law_179 ?_
        refine va_sld hx hb hX hbl hbA hS (lw_ix (k := 4) rfl (by omega) hL) dL_law_180 ?_
        refine lv_if_eq (tgt := 188) hx hb dL_law_181 (by decide) (fun c1 => ?_) (fun c1 => ?_)
        · refine lv_iconst (v := 0) hx hb dL_law_188 (by decide) ?_
          obtain ⟨r, σ', τ', e1, e2, hRl⟩ := hsim.2.2.1 σ τ (xs (nI j + 1).toNatClampNeg) (xs (nI j + 2).toNatClampNeg) (xs (nI j + 3).toNatClampNeg) (0 : Int32) hRl (Or.inl rfl)
          have hCR := hadC σ'
          refine lw_cV (As := [.int (xs (nI j + 1).toNatClampNeg), .int (xs (nI j + 2).toNatClampNeg), .int (xs (nI j + 3).toNatClampNeg), .int (0 : Int32)]) (rest := []) S (m_X9_plant l hDC e1) (cwV 4 S.2.2.2.2 gL_law_X9_plant rfl rfl rfl (by decide +kernel) ⟨Nat.le_of_ble_eq_true rfl, Nat.le_of_ble_eq_true rfl⟩) hKC hPc hPr hRC hS hZ hCA 0 9 rfl rfl rfl hl.1 rfl (Nat.le_of_ble_eq_true rfl) dL_law_189 hcs (fun H locs hPc hPr hS => ?_)
          refine lv_aload_n hx hb dL_law_192 rfl (lv_at hl 2 rfl) ?_
          refine lv_aload_n hx hb dL_law_193 rfl (lv_at hl 0 rfl) ?_
          refine lv_iload_n hx hb dL_law_194 rfl (lv_at hl 3 rfl) ?_
          refine lv_iconst (v := 1) hx hb dL_law_195 (by decide) ?_
          refine lv_iadd hx hb dL_law_196 ?_
          refine va_sld hx hb hX hbl hbA hS (lw_ix (k := 1) rfl (by omega) hL) dL_law_197 ?_
          refine lv_aload_n hx hb dL_law_198 rfl (lv_at hl 0 rfl) ?_
          refine lv_iload_n hx hb dL_law_199 rfl (lv_at hl 3 rfl) ?_
          refine lv_iconst (v := 2) hx hb dL_law_200 (by decide) ?_
          refine lv_iadd hx hb dL_law_201 ?_
          refine va_sld hx hb hX hbl hbA hS (lw_ix (k := 2) rfl (by omega) hL) dL_law_202 ?_
          refine lv_aload_n hx hb dL_law_203 rfl (lv_at hl 0 rfl) ?_
          refine lv_iload_n hx hb dL_law_204 rfl (lv_at hl 3 rfl) ?_
          refine lv_iconst (v := 3) hx hb dL_law_205 (by decide) ?_
          refine lv_iadd hx hb dL_law_206 ?_
          refine va_sld hx hb hX hbl hbA hS (lw_ix (k := 3) rfl (by omega) hL) dL_law_207 ?_
          refine lv_aload_n hx hb dL_law_208 rfl (lv_at hl 0 rfl) ?_
          refine lv_iload_n hx hb dL_law_209 rfl (lv_at hl 3 rfl) ?_
          refine lv_iconst (v := 4) hx hb dL_law_210 (by decide) ?_
          refine lv_iadd hx hb dL_law_211 ?_
          refine va_sld hx hb hX hbl hbA hS (lw_ix (k := 4) rfl (by omega) hL) dL_law_212 ?_
          refine lv_if_eq (tgt := 220) hx hb dL_law_213 (by decide) (fun c2 => ?_) (fun c2 => ?_)
          · refine lv_iconst (v := 0) hx hb dL_law_220 (by decide) ?_
            refine lw_cV (As := [.int (xs (nI j + 1).toNatClampNeg), .int (xs (nI j + 2).toNatClampNeg), .int (xs (nI j + 3).toNatClampNeg), .int (0 : Int32)]) (rest := [.int r]) S (m_X10_plant l hDR e2) (cwV 4 S.2.2.2.2 gL_law_X10_plant rfl rfl rfl (by decide +kernel) ⟨Nat.le_of_ble_eq_true rfl, Nat.le_of_ble_eq_true rfl⟩) hKR hPr hPc hCR hS hZ hRA 0 10 rfl rfl rfl hl.1 rfl (Nat.le_of_ble_eq_true rfl) dL_law_221 hcs (fun H locs hPr hPc hS => ?_)
            refine lv_icmp_eq (tgt := 472) hx hb dL_law_224 (by decide) (fun _ => ?_) (fun c => absurd rfl c)
            exact K472 _ _ _ _ () hPc hPr hS hRl ls hl
          · exact absurd c1 c2
        · refine lv_iconst (v := 1) hx hb dL_law_184 (by decide) ?_
          refine lv_goto (tgt := 189) hx hb dL_law_185 (by decide) ?_
          obtain ⟨r, σ', τ', e1, e2, hRl⟩ := hsim.2.2.1 σ τ (xs (nI j + 1).toNatClampNeg) (xs (nI j + 2).toNatClampNeg) (xs (nI j + 3).toNatClampNeg) (1 : Int32) hRl (Or.inr rfl)
          have hCR := hadC σ'
          refine lw_cV (As := [.int (xs (nI j + 1).toNatClampNeg), .int (xs (nI j + 2).toNatClampNeg), .int (xs (nI j + 3).toNatClampNeg), .int (1 : Int32)]) (rest := []) S (m_X9_plant l hDC e1) (cwV 4 S.2.2.2.2 gL_law_X9_plant rfl rfl rfl (by decide +kernel) ⟨Nat.le_of_ble_eq_true rfl, Nat.le_of_ble_eq_true rfl⟩) hKC hPc hPr hRC hS hZ hCA 0 9 rfl rfl rfl hl.1 rfl (Nat.le_of_ble_eq_true rfl) dL_law_189 hcs (fun H locs hPc hPr hS => ?_)
          refine lv_aload_n hx hb dL_law_192 rfl (lv_at hl 2 rfl) ?_
          refine lv_aload_n hx hb dL_law_193 rfl (lv_at hl 0 rfl) ?_
          refine lv_iload_n hx hb dL_law_194 rfl (lv_at hl 3 rfl) ?_
          refine lv_iconst (v := 1) hx hb dL_law_195 (by decide) ?_
          refine lv_iadd hx hb dL_law_196 ?_
          refine va_sld hx hb hX hbl hbA hS (lw_ix (k := 1) rfl (by omega) hL) dL_law_197 ?_
          refine lv_aload_n hx hb dL_law_198 rfl (lv_at hl 0 rfl) ?_
          refine lv_iload_n hx hb dL_law_199 rfl (lv_at hl 3 rfl) ?_
          refine lv_iconst (v := 2) hx hb dL_law_200 (by decide) ?_
          refine lv_iadd hx hb dL_law_201 ?_
          refine va_sld hx hb hX hbl hbA hS (lw_ix (k := 2) rfl (by omega) hL) dL_law_202 ?_
          refine lv_aload_n hx hb dL_law_203 rfl (lv_at hl 0 rfl) ?_
          refine lv_iload_n hx hb dL_law_204 rfl (lv_at hl 3 rfl) ?_
          refine lv_iconst (v := 3) hx hb dL_law_205 (by decide) ?_
          refine lv_iadd hx hb dL_law_206 ?_
          refine va_sld hx hb hX hbl hbA hS (lw_ix (k := 3) rfl (by omega) hL) dL_law_207 ?_
          refine lv_aload_n hx hb dL_law_208 rfl (lv_at hl 0 rfl) ?_
          refine lv_iload_n hx hb dL_law_209 rfl (lv_at hl 3 rfl) ?_
          refine lv_iconst (v := 4) hx hb dL_law_210 (by decide) ?_
          refine lv_iadd hx hb dL_law_211 ?_
          refine va_sld hx hb hX hbl hbA hS (lw_ix (k := 4) rfl (by omega) hL) dL_law_212 ?_
          refine lv_if_eq (tgt := 220) hx hb dL_law_213 (by decide) (fun c3 => ?_) (fun c3 => ?_)
          · exact absurd c3 c1
          · refine lv_iconst (v := 1) hx hb dL_law_216 (by decide) ?_
            refine lv_goto (tgt := 221) hx hb dL_law_217 (by decide) ?_
            refine lw_cV (As := [.int (xs (nI j + 1).toNatClampNeg), .int (xs (nI j + 2).toNatClampNeg), .int (xs (nI j + 3).toNatClampNeg), .int (1 : Int32)]) (rest := [.int r]) S (m_X10_plant l hDR e2) (cwV 4 S.2.2.2.2 gL_law_X10_plant rfl rfl rfl (by decide +kernel) ⟨Nat.le_of_ble_eq_true rfl, Nat.le_of_ble_eq_true rfl⟩) hKR hPr hPc hCR hS hZ hRA 0 10 rfl rfl rfl hl.1 rfl (Nat.le_of_ble_eq_true rfl) dL_law_221 hcs (fun H locs hPr hPc hS => ?_)
            refine lv_icmp_eq (tgt := 472) hx hb dL_law_224 (by decide) (fun _ => ?_) (fun c => absurd rfl c)
            exact K472 _ _ _ _ () hPc hPr hS hRl ls hl
      by_cases o3 : op = 3
      · refine lv_tableIn (off := 197) (tgt := 229) hx hb dL_law_32 (by rw [o3]; decide) (by rw [o3]; decide) (by rw [o3]; rfl) (by decide) ?_
        refine lv_aload_n hx hb dL_law_229 rfl (lv_at hl 1 rfl) ?_
        refine lv_aload_n hx hb dL_law_230 rfl (lv_at hl 0 rfl) ?_
        refine lv_iload_n hx hb dL_law_231 rfl (lv_at hl 3 rfl) ?_
        refine lv_iconst (v := 1) hx hb dL_law_232 (by decide) ?_
        refine lv_iadd hx hb dL_law_233 ?_
        refine va_sld hx hb hX hbl hbA hS (lw_ix (k := 1) rfl (by omega) hL) dL_law_234 ?_
        obtain ⟨r, σ', τ', e1, e2, hRl⟩ := hsim.2.2.2.1 σ τ (xs (nI j + 1).toNatClampNeg) hRl
        have hCR := hadC σ'
        refine lw_cV (As := [.int (xs (nI j + 1).toNatClampNeg)]) (rest := []) S (m_X9_begin l hDC e1) (cwV 1 S.2.2.2.2 gL_law_X9_begin rfl rfl rfl (by decide +kernel) ⟨Nat.le_of_ble_eq_true rfl, Nat.le_of_ble_eq_true rfl⟩) hKC hPc hPr hRC hS hZ hCA 0 9 rfl rfl rfl hl.1 rfl (Nat.le_of_ble_eq_true rfl) dL_law_235 hcs (fun H locs hPc hPr hS => ?_)
        refine lv_aload_n hx hb dL_law_238 rfl (lv_at hl 2 rfl) ?_
        refine lv_aload_n hx hb dL_law_239 rfl (lv_at hl 0 rfl) ?_
        refine lv_iload_n hx hb dL_law_240 rfl (lv_at hl 3 rfl) ?_
        refine lv_iconst (v := 1) hx hb dL_law_241 (by decide) ?_
        refine lv_iadd hx hb dL_law_242 ?_
        refine va_sld hx hb hX hbl hbA hS (lw_ix (k := 1) rfl (by omega) hL) dL_law_243 ?_
        refine lw_cV (As := [.int (xs (nI j + 1).toNatClampNeg)]) (rest := [.int r]) S (m_X10_begin l hDR e2) (cwV 1 S.2.2.2.2 gL_law_X10_begin rfl rfl rfl (by decide +kernel) ⟨Nat.le_of_ble_eq_true rfl, Nat.le_of_ble_eq_true rfl⟩) hKR hPr hPc hCR hS hZ hRA 0 10 rfl rfl rfl hl.1 rfl (Nat.le_of_ble_eq_true rfl) dL_law_244 hcs (fun H locs hPr hPc hS => ?_)
        refine lv_icmp_eq (tgt := 472) hx hb dL_law_247 (by decide) (fun _ => ?_) (fun c => absurd rfl c)
        exact K472 _ _ _ _ () hPc hPr hS hRl ls hl
      by_cases o4 : op = 4
      · refine lv_tableIn (off := 220) (tgt := 252) hx hb dL_law_32 (by rw [o4]; decide) (by rw [o4]; decide) (by rw [o4]; rfl) (by decide) ?_
        refine lv_aload_n hx hb dL_law_252 rfl (lv_at hl 1 rfl) ?_
        refine lv_aload_n hx hb dL_law_253 rfl (lv_at hl 0 rfl) ?_
        refine lv_iload_n hx hb dL_law_254 rfl (lv_at hl 3 rfl) ?_
        refine lv_iconst (v := 1) hx hb dL_law_255 (by decide) ?_
        refine lv_iadd hx hb dL_law_256 ?_
        refine va_sld hx hb hX hbl hbA hS (lw_ix (k := 1) rfl (by omega) hL) dL_law_257 ?_
        obtain ⟨r, σ', τ', e1, e2, hRl⟩ := hsim.2.2.2.2.1 σ τ (xs (nI j + 1).toNatClampNeg) hRl
        have hCR := hadC σ'
        refine lw_cV (As := [.int (xs (nI j + 1).toNatClampNeg)]) (rest := []) S (m_X9_turn l hDC e1) (cwV 1 S.2.2.2.2 gL_law_X9_turn rfl rfl rfl (by decide +kernel) ⟨Nat.le_of_ble_eq_true rfl, Nat.le_of_ble_eq_true rfl⟩) hKC hPc hPr hRC hS hZ hCA 0 9 rfl rfl rfl hl.1 rfl (Nat.le_of_ble_eq_true rfl) dL_law_258 hcs (fun H locs hPc hPr hS => ?_)
        refine lv_aload_n hx hb dL_law_261 rfl (lv_at hl 2 rfl) ?_
        refine lv_aload_n hx hb dL_law_262 rfl (lv_at hl 0 rfl) ?_
        refine lv_iload_n hx hb dL_law_263 rfl (lv_at hl 3 rfl) ?_
        refine lv_iconst (v := 1) hx hb dL_law_264 (by decide) ?_
        refine lv_iadd hx hb dL_law_265 ?_
        refine va_sld hx hb hX hbl hbA hS (lw_ix (k := 1) rfl (by omega) hL) dL_law_266 ?_
        refine lw_cV (As := [.int (xs (nI j + 1).toNatClampNeg)]) (rest := [.int r]) S (m_X10_turn l hDR e2) (cwV 1 S.2.2.2.2 gL_law_X10_turn rfl rfl rfl (by decide +kernel) ⟨Nat.le_of_ble_eq_true rfl, Nat.le_of_ble_eq_true rfl⟩) hKR hPr hPc hCR hS hZ hRA 0 10 rfl rfl rfl hl.1 rfl (Nat.le_of_ble_eq_true rfl) dL_law_267 hcs (fun H locs hPr hPc hS => ?_)
        refine lv_icmp_eq (tgt := 472) hx hb dL_law_270 (by decide) (fun _ => ?_) (fun c => absurd rfl c)
        exact K472 _ _ _ _ () hPc hPr hS hRl ls hl
      by_cases o5 : op = 5
      · refine lv_tableIn (off := 243) (tgt := 275) hx hb dL_law_32 (by rw [o5]; decide) (by rw [o5]; decide) (by rw [o5]; rfl) (by decide) ?_
        refine lv_aload_n hx hb dL_law_275 rfl (lv_at hl 1 rfl) ?_
        refine lv_aload_n hx hb dL_law_276 rfl (lv_at hl 0 rfl) ?_
        refine lv_iload_n hx hb dL_law_277 rfl (lv_at hl 3 rfl) ?_
        refine lv_iconst (v := 1) hx hb dL_law_278 (by decide) ?_
        refine lv_iadd hx hb dL_law_279 ?_
        refine va_sld hx hb hX hbl hbA hS (lw_ix (k := 1) rfl (by omega) hL) dL_law_280 ?_
        obtain ⟨r, σ', τ', e1, e2, hRl⟩ := hsim.2.2.2.2.2.1 σ τ (xs (nI j + 1).toNatClampNeg) hRl
        have hCR := hadC σ'
        refine lw_cV (As := [.int (xs (nI j + 1).toNatClampNeg)]) (rest := []) S (m_X9_run l hDC e1) (cwV 1 S.2.2.2.2 gL_law_X9_run rfl rfl rfl (by decide +kernel) ⟨Nat.le_of_ble_eq_true rfl, Nat.le_of_ble_eq_true rfl⟩) hKC hPc hPr hRC hS hZ hCA 0 9 rfl rfl rfl hl.1 rfl (Nat.le_of_ble_eq_true rfl) dL_law_281 hcs (fun H locs hPc hPr hS => ?_)
        refine lv_aload_n hx hb dL_law_284 rfl (lv_at hl 2 rfl) ?_
        refine lv_aload_n hx hb dL_law_285 rfl (lv_at hl 0 rfl) ?_
        refine lv_iload_n hx hb dL_law_286 rfl (lv_at hl 3 rfl) ?_
        refine lv_iconst (v := 1) hx hb dL_law_287 (by decide) ?_
        refine lv_iadd hx hb dL_law_288 ?_
        refine va_sld hx hb hX hbl hbA hS (lw_ix (k := 1) rfl (by omega) hL) dL_law_289 ?_
        refine lw_cV (As := [.int (xs (nI j + 1).toNatClampNeg)]) (rest := [.int r]) S (m_X10_run l hDR e2) (cwV 1 S.2.2.2.2 gL_law_X10_run rfl rfl rfl (by decide +kernel) ⟨Nat.le_of_ble_eq_true rfl, Nat.le_of_ble_eq_true rfl⟩) hKR hPr hPc hCR hS hZ hRA 0 10 rfl rfl rfl hl.1 rfl (Nat.le_of_ble_eq_true rfl) dL_law_290 hcs (fun H locs hPr hPc hS => ?_)
        refine lv_icmp_eq (tgt := 472) hx hb dL_law_293 (by decide) (fun _ => ?_) (fun c => absurd rfl c)
        exact K472 _ _ _ _ () hPc hPr hS hRl ls hl
      by_cases o6 : op = 6
      · refine lv_tableIn (off := 266) (tgt := 298) hx hb dL_law_32 (by rw [o6]; decide) (by rw [o6]; decide) (by rw [o6]; rfl) (by decide) ?_
        refine lv_aload_n hx hb dL_law_298 rfl (lv_at hl 1 rfl) ?_
        refine lv_aload_n hx hb dL_law_299 rfl (lv_at hl 0 rfl) ?_
        refine lv_iload_n hx hb dL_law_300 rfl (lv_at hl 3 rfl) ?_
        refine lv_iconst (v := 1) hx hb dL_law_301 (by decide) ?_
        refine lv_iadd hx hb dL_law_302 ?_
        refine va_sld hx hb hX hbl hbA hS (lw_ix (k := 1) rfl (by omega) hL) dL_law_303 ?_
        obtain ⟨r, σ', τ', e1, e2, hRl⟩ := hsim.2.2.2.2.2.2.1 σ τ (xs (nI j + 1).toNatClampNeg) hRl
        have hCR := hadC σ'
        refine lw_cV (As := [.int (xs (nI j + 1).toNatClampNeg)]) (rest := []) S (m_X9_interrupt l hDC e1) (cwV 1 S.2.2.2.2 gL_law_X9_interrupt rfl rfl rfl (by decide +kernel) ⟨Nat.le_of_ble_eq_true rfl, Nat.le_of_ble_eq_true rfl⟩) hKC hPc hPr hRC hS hZ hCA 0 9 rfl rfl rfl hl.1 rfl (Nat.le_of_ble_eq_true rfl) dL_law_304 hcs (fun H locs hPc hPr hS => ?_)
        refine lv_aload_n hx hb dL_law_307 rfl (lv_at hl 2 rfl) ?_
        refine lv_aload_n hx hb dL_law_308 rfl (lv_at hl 0 rfl) ?_
        refine lv_iload_n hx hb dL_law_309 rfl (lv_at hl 3 rfl) ?_
        refine lv_iconst (v := 1) hx hb dL_law_310 (by decide) ?_
        refine lv_iadd hx hb dL_law_311 ?_
        refine va_sld hx hb hX hbl hbA hS (lw_ix (k := 1) rfl (by omega) hL) dL_law_312 ?_
        refine lw_cV (As := [.int (xs (nI j + 1).toNatClampNeg)]) (rest := [.int r]) S (m_X10_interrupt l hDR e2) (cwV 1 S.2.2.2.2 gL_law_X10_interrupt rfl rfl rfl (by decide +kernel) ⟨Nat.le_of_ble_eq_true rfl, Nat.le_of_ble_eq_true rfl⟩) hKR hPr hPc hCR hS hZ hRA 0 10 rfl rfl rfl hl.1 rfl (Nat.le_of_ble_eq_true rfl) dL_law_313 hcs (fun H locs hPr hPc hS => ?_)
        refine lv_icmp_eq (tgt := 472) hx hb dL_law_316 (by decide) (fun _ => ?_) (fun c => absurd rfl c)
        exact K472 _ _ _ _ () hPc hPr hS hRl ls hl
      by_cases o7 : op = 7
      · refine lv_tableIn (off := 289) (tgt := 321) hx hb dL_law_32 (by rw [o7]; decide) (by rw [o7]; decide) (by rw [o7]; rfl) (by decide) ?_
        refine lv_aload_n hx hb dL_law_321 rfl (lv_at hl 1 rfl) ?_
        refine lv_aload_n hx hb dL_law_322 rfl (lv_at hl 0 rfl) ?_
        refine lv_iload_n hx hb dL_law_323 rfl (lv_at hl 3 rfl) ?_
        refine lv_iconst (v := 1) hx hb dL_law_324 (by decide) ?_
        refine lv_iadd hx hb dL_law_325 ?_
        refine va_sld hx hb hX hbl hbA hS (lw_ix (k := 1) rfl (by omega) hL) dL_law_326 ?_
        refine lv_aload_n hx hb dL_law_327 rfl (lv_at hl 0 rfl) ?_
        refine lv_iload_n hx hb dL_law_328 rfl (lv_at hl 3 rfl) ?_
        refine lv_iconst (v := 2) hx hb dL_law_329 (by decide) ?_
        refine lv_iadd hx hb dL_law_330 ?_
        refine va_sld hx hb hX hbl hbA hS (lw_ix (k := 2) rfl (by omega) hL) dL_law_331 ?_
        obtain ⟨r, σ', τ', e1, e2, hRl⟩ := hsim.2.2.2.2.2.2.2.1 σ τ (xs (nI j + 1).toNatClampNeg) (xs (nI j + 2).toNatClampNeg) hRl
        have hCR := hadC σ'
        refine lw_cV (As := [.int (xs (nI j + 1).toNatClampNeg), .int (xs (nI j + 2).toNatClampNeg)]) (rest := []) S (m_X9_thread l hDC e1) (cwV 2 S.2.2.2.2 gL_law_X9_thread rfl rfl rfl (by decide +kernel) ⟨Nat.le_of_ble_eq_true rfl, Nat.le_of_ble_eq_true rfl⟩) hKC hPc hPr hRC hS hZ hCA 0 9 rfl rfl rfl hl.1 rfl (Nat.le_of_ble_eq_true rfl) dL_law_332 hcs (fun H locs hPc hPr hS => ?_)
        refine lv_aload_n hx hb dL_law_335 rfl (lv_at hl 2 rfl) ?_
        refine lv_aload_n hx hb dL_law_336 rfl (lv_at hl 0 rfl) ?_
        refine lv_iload_n hx hb dL_law_337 rfl (lv_at hl 3 rfl) ?_
        refine lv_iconst (v := 1) hx hb dL_law_338 (by decide) ?_
        refine lv_iadd hx hb dL_law_339 ?_
        refine va_sld hx hb hX hbl hbA hS (lw_ix (k := 1) rfl (by omega) hL) dL_law_340 ?_
        refine lv_aload_n hx hb dL_law_341 rfl (lv_at hl 0 rfl) ?_
        refine lv_iload_n hx hb dL_law_342 rfl (lv_at hl 3 rfl) ?_
        refine lv_iconst (v := 2) hx hb dL_law_343 (by decide) ?_
        refine lv_iadd hx hb dL_law_344 ?_
        refine va_sld hx hb hX hbl hbA hS (lw_ix (k := 2) rfl (by omega) hL) dL_law_345 ?_
        refine lw_cV (As := [.int (xs (nI j + 1).toNatClampNeg), .int (xs (nI j + 2).toNatClampNeg)]) (rest := [.int r]) S (m_X10_thread l hDR e2) (cwV 2 S.2.2.2.2 gL_law_X10_thread rfl rfl rfl (by decide +kernel) ⟨Nat.le_of_ble_eq_true rfl, Nat.le_of_ble_eq_true rfl⟩) hKR hPr hPc hCR hS hZ hRA 0 10 rfl rfl rfl hl.1 rfl (Nat.le_of_ble_eq_true rfl) dL_law_346 hcs (fun H locs hPr hPc hS => ?_)
        refine lv_icmp_eq (tgt := 472) hx hb dL_law_349 (by decide) (fun _ => ?_) (fun c => absurd rfl c)
        exact K472 _ _ _ _ () hPc hPr hS hRl ls hl
      by_cases o8 : op = 8
      · refine lv_tableIn (off := 322) (tgt := 354) hx hb dL_law_32 (by rw [o8]; decide) (by rw [o8]; decide) (by rw [o8]; rfl) (by decide) ?_
        refine lv_aload_n hx hb dL_law_354 rfl (lv_at hl 1 rfl) ?_
        refine lv_aload_n hx hb dL_law_355 rfl (lv_at hl 0 rfl) ?_
        refine lv_iload_n hx hb dL_law_356 rfl (lv_at hl 3 rfl) ?_
        refine lv_iconst (v := 1) hx hb dL_law_357 (by decide) ?_
        refine lv_iadd hx hb dL_law_358 ?_
        refine va_sld hx hb hX hbl hbA hS (lw_ix (k := 1) rfl (by omega) hL) dL_law_359 ?_
        obtain ⟨r, σ', τ', e1, e2, hRl⟩ := hsim.2.2.2.2.2.2.2.2.1 σ τ (xs (nI j + 1).toNatClampNeg) hRl
        have hCR := hadC σ'
        refine lw_cV (As := [.int (xs (nI j + 1).toNatClampNeg)]) (rest := []) S (m_X9_out l hDC e1) (cwV 1 S.2.2.2.2 gL_law_X9_out rfl rfl rfl (by decide +kernel) ⟨Nat.le_of_ble_eq_true rfl, Nat.le_of_ble_eq_true rfl⟩) hKC hPc hPr hRC hS hZ hCA 0 9 rfl rfl rfl hl.1 rfl (Nat.le_of_ble_eq_true rfl) dL_law_360 hcs (fun H locs hPc hPr hS => ?_)
        refine lv_aload_n hx hb dL_law_363 rfl (lv_at hl 2 rfl) ?_
        refine lv_aload_n hx hb dL_law_364 rfl (lv_at hl 0 rfl) ?_
        refine lv_iload_n hx hb dL_law_365 rfl (lv_at hl 3 rfl) ?_
        refine lv_iconst (v := 1) hx hb dL_law_366 (by decide) ?_
        refine lv_iadd hx hb dL_law_367 ?_
        refine va_sld hx hb hX hbl hbA hS (lw_ix (k := 1) rfl (by omega) hL) dL_law_368 ?_
        refine lw_cV (As := [.int (xs (nI j + 1).toNatClampNeg)]) (rest := [.int r]) S (m_X10_out l hDR e2) (cwV 1 S.2.2.2.2 gL_law_X10_out rfl rfl rfl (by decide +kernel) ⟨Nat.le_of_ble_eq_true rfl, Nat.le_of_ble_eq_true rfl⟩) hKR hPr hPc hCR hS hZ hRA 0 10 rfl rfl rfl hl.1 rfl (Nat.le_of_ble_eq_true rfl) dL_law_369 hcs (fun H locs hPr hPc hS => ?_)
        refine lv_icmp_eq (tgt := 472) hx hb dL_law_372 (by decide) (fun _ => ?_) (fun c => absurd rfl c)
        exact K472 _ _ _ _ () hPc hPr hS hRl ls hl
      by_cases o9 : op = 9
      · refine lv_tableIn (off := 345) (tgt := 377) hx hb dL_law_32 (by rw [o9]; decide) (by rw [o9]; decide) (by rw [o9]; rfl) (by decide) ?_
        refine lv_aload_n hx hb dL_law_377 rfl (lv_at hl 1 rfl) ?_
        refine lv_aload_n hx hb dL_law_378 rfl (lv_at hl 0 rfl) ?_
        refine lv_iload_n hx hb dL_law_379 rfl (lv_at hl 3 rfl) ?_
        refine lv_iconst (v := 1) hx hb dL_law_380 (by decide) ?_
        refine lv_iadd hx hb dL_law_381 ?_
        refine va_sld hx hb hX hbl hbA hS (lw_ix (k := 1) rfl (by omega) hL) dL_law_382 ?_
        obtain ⟨r, σ', τ', e1, e2, hRl⟩ := hsim.2.2.2.2.2.2.2.2.2.1 σ τ (xs (nI j + 1).toNatClampNeg) hRl
        have hCR := hadC σ'
        refine lw_cV (As := [.int (xs (nI j + 1).toNatClampNeg)]) (rest := []) S (m_X9_told l hDC e1) (cwV 1 S.2.2.2.2 gL_law_X9_told rfl rfl rfl (by decide +kernel) ⟨Nat.le_of_ble_eq_true rfl, Nat.le_of_ble_eq_true rfl⟩) hKC hPc hPr hRC hS hZ hCA 0 9 rfl rfl rfl hl.1 rfl (Nat.le_of_ble_eq_true rfl) dL_law_383 hcs (fun H locs hPc hPr hS => ?_)
        refine lv_aload_n hx hb dL_law_386 rfl (lv_at hl 2 rfl) ?_
        refine lv_aload_n hx hb dL_law_387 rfl (lv_at hl 0 rfl) ?_
        refine lv_iload_n hx hb dL_law_388 rfl (lv_at hl 3 rfl) ?_
        refine lv_iconst (v := 1) hx hb dL_law_389 (by decide) ?_
        refine lv_iadd hx hb dL_law_390 ?_
        refine va_sld hx hb hX hbl hbA hS (lw_ix (k := 1) rfl (by omega) hL) dL_law_391 ?_
        refine lw_cV (As := [.int (xs (nI j + 1).toNatClampNeg)]) (rest := [.int r]) S (m_X10_told l hDR e2) (cwV 1 S.2.2.2.2 gL_law_X10_told rfl rfl rfl (by decide +kernel) ⟨Nat.le_of_ble_eq_true rfl, Nat.le_of_ble_eq_true rfl⟩) hKR hPr hPc hCR hS hZ hRA 0 10 rfl rfl rfl hl.1 rfl (Nat.le_of_ble_eq_true rfl) dL_law_392 hcs (fun H locs hPr hPc hS => ?_)
        refine lv_icmp_eq (tgt := 472) hx hb dL_law_395 (by decide) (fun _ => ?_) (fun c => absurd rfl c)
        exact K472 _ _ _ _ () hPc hPr hS hRl ls hl
      by_cases o10 : op = 10
      · refine lv_tableIn (off := 368) (tgt := 400) hx hb dL_law_32 (by rw [o10]; decide) (by rw [o10]; decide) (by rw [o10]; rfl) (by decide) ?_
        refine lv_aload_n hx hb dL_law_400 rfl (lv_at hl 1 rfl) ?_
        refine lv_aload_n hx hb dL_law_401 rfl (lv_at hl 0 rfl) ?_
        refine lv_iload_n hx hb dL_law_402 rfl (lv_at hl 3 rfl) ?_
        refine lv_iconst (v := 1) hx hb dL_law_403 (by decide) ?_
        refine lv_iadd hx hb dL_law_404 ?_
        refine va_sld hx hb hX hbl hbA hS (lw_ix (k := 1) rfl (by omega) hL) dL_law_405 ?_
        obtain ⟨r, σ', τ', e1, e2, hRl⟩ := hsim.2.2.2.2.2.2.2.2.2.2.1 σ τ (xs (nI j + 1).toNatClampNeg) hRl
        have hCR := hadC σ'
        refine lw_cV (As := [.int (xs (nI j + 1).toNatClampNeg)]) (rest := []) S (m_X9_waiting l hDC e1) (cwV 1 S.2.2.2.2 gL_law_X9_waiting rfl rfl rfl (by decide +kernel) ⟨Nat.le_of_ble_eq_true rfl, Nat.le_of_ble_eq_true rfl⟩) hKC hPc hPr hRC hS hZ hCA 0 9 rfl rfl rfl hl.1 rfl (Nat.le_of_ble_eq_true rfl) dL_law_406 hcs (fun H locs hPc hPr hS => ?_)
        refine lv_aload_n hx hb dL_law_409 rfl (lv_at hl 2 rfl) ?_
        refine lv_aload_n hx hb dL_law_410 rfl (lv_at hl 0 rfl) ?_
        refine lv_iload_n hx hb dL_law_411 rfl (lv_at hl 3 rfl) ?_
        refine lv_iconst (v := 1) hx hb dL_law_412 (by decide) ?_
        refine lv_iadd hx hb dL_law_413 ?_
        refine va_sld hx hb hX hbl hbA hS (lw_ix (k := 1) rfl (by omega) hL) dL_law_414 ?_
        refine lw_cV (As := [.int (xs (nI j + 1).toNatClampNeg)]) (rest := [.int r]) S (m_X10_waiting l hDR e2) (cwV 1 S.2.2.2.2 gL_law_X10_waiting rfl rfl rfl (by decide +kernel) ⟨Nat.le_of_ble_eq_true rfl, Nat.le_of_ble_eq_true rfl⟩) hKR hPr hPc hCR hS hZ hRA 0 10 rfl rfl rfl hl.1 rfl (Nat.le_of_ble_eq_true rfl) dL_law_415 hcs (fun H locs hPr hPc hS => ?_)
        refine lv_icmp_eq (tgt := 472) hx hb dL_law_418 (by decide) (fun _ => ?_) (fun c => absurd rfl c)
        exact K472 _ _ _ _ () hPc hPr hS hRl ls hl
      by_cases o11 : op = 11
      · refine lv_tableIn (off := 391) (tgt := 423) hx hb dL_law_32 (by rw [o11]; decide) (by rw [o11]; decide) (by rw [o11]; rfl) (by decide) ?_
        refine lv_aload_n hx hb dL_law_423 rfl (lv_at hl 1 rfl) ?_
        refine lv_aload_n hx hb dL_law_424 rfl (lv_at hl 0 rfl) ?_
        refine lv_iload_n hx hb dL_law_425 rfl (lv_at hl 3 rfl) ?_
        refine lv_iconst (v := 1) hx hb dL_law_426 (by decide) ?_
        refine lv_iadd hx hb dL_law_427 ?_
        refine va_sld hx hb hX hbl hbA hS (lw_ix (k := 1) rfl (by omega) hL) dL_law_428 ?_
        obtain ⟨r, σ', τ', e1, e2, hRl⟩ := hsim.2.2.2.2.2.2.2.2.2.2.2.1 σ τ (xs (nI j + 1).toNatClampNeg) hRl
        have hCR := hadC σ'
        refine lw_cV (As := [.int (xs (nI j + 1).toNatClampNeg)]) (rest := []) S (m_X9_plain l hDC e1) (cwV 1 S.2.2.2.2 gL_law_X9_plain rfl rfl rfl (by decide +kernel) ⟨Nat.le_of_ble_eq_true rfl, Nat.le_of_ble_eq_true rfl⟩) hKC hPc hPr hRC hS hZ hCA 0 9 rfl rfl rfl hl.1 rfl (Nat.le_of_ble_eq_true rfl) dL_law_429 hcs (fun H locs hPc hPr hS => ?_)
        refine lv_aload_n hx hb dL_law_432 rfl (lv_at hl 2 rfl) ?_
        refine lv_aload_n hx hb dL_law_433 rfl (lv_at hl 0 rfl) ?_
        refine lv_iload_n hx hb dL_law_434 rfl (lv_at hl 3 rfl) ?_
        refine lv_iconst (v := 1) hx hb dL_law_435 (by decide) ?_
        refine lv_iadd hx hb dL_law_436 ?_
        refine va_sld hx hb hX hbl hbA hS (lw_ix (k := 1) rfl (by omega) hL) dL_law_437 ?_
        refine lw_cV (As := [.int (xs (nI j + 1).toNatClampNeg)]) (rest := [.int r]) S (m_X10_plain l hDR e2) (cwV 1 S.2.2.2.2 gL_law_X10_plain rfl rfl rfl (by decide +kernel) ⟨Nat.le_of_ble_eq_true rfl, Nat.le_of_ble_eq_true rfl⟩) hKR hPr hPc hCR hS hZ hRA 0 10 rfl rfl rfl hl.1 rfl (Nat.le_of_ble_eq_true rfl) dL_law_438 hcs (fun H locs hPr hPc hS => ?_)
        refine lv_icmp_eq (tgt := 472) hx hb dL_law_441 (by decide) (fun _ => ?_) (fun c => absurd rfl c)
        exact K472 _ _ _ _ () hPc hPr hS hRl ls hl
      by_cases o12 : op = 12
      · refine lv_tableIn (off := 414) (tgt := 446) hx hb dL_law_32 (by rw [o12]; decide) (by rw [o12]; decide) (by rw [o12]; rfl) (by decide) ?_
        refine lv_aload_n hx hb dL_law_446 rfl (lv_at hl 1 rfl) ?_
        obtain ⟨r, σ', τ', e1, e2, hRl⟩ := hsim.2.2.2.2.2.2.2.2.2.2.2.2.1 σ τ hRl
        have hCR := hadC σ'
        refine lw_cV (As := []) (rest := []) S (m_X9_close l hDC e1) (cwV 0 S.2.2.2.2 gL_law_X9_close rfl rfl rfl (by decide +kernel) ⟨Nat.le_of_ble_eq_true rfl, Nat.le_of_ble_eq_true rfl⟩) hKC hPc hPr hRC hS hZ hCA 0 9 rfl rfl rfl hl.1 rfl (Nat.le_of_ble_eq_true rfl) dL_law_447 hcs (fun H locs hPc hPr hS => ?_)
        refine lv_aload_n hx hb dL_law_450 rfl (lv_at hl 2 rfl) ?_
        refine lw_cV (As := []) (rest := [.int r]) S (m_X10_close l hDR e2) (cwV 0 S.2.2.2.2 gL_law_X10_close rfl rfl rfl (by decide +kernel) ⟨Nat.le_of_ble_eq_true rfl, Nat.le_of_ble_eq_true rfl⟩) hKR hPr hPc hCR hS hZ hRA 0 10 rfl rfl rfl hl.1 rfl (Nat.le_of_ble_eq_true rfl) dL_law_451 hcs (fun H locs hPr hPc hS => ?_)
        refine lv_icmp_eq (tgt := 472) hx hb dL_law_454 (by decide) (fun _ => ?_) (fun c => absurd rfl c)
        exact K472 _ _ _ _ () hPc hPr hS hRl ls hl
      by_cases o13 : op = 13
      · refine lv_tableIn (off := 427) (tgt := 459) hx hb dL_law_32 (by rw [o13]; decide) (by rw [o13]; decide) (by rw [o13]; rfl) (by decide) ?_
        refine lv_aload_n hx hb dL_law_459 rfl (lv_at hl 1 rfl) ?_
        obtain ⟨r, σ', τ', e1, e2, hRl⟩ := hsim.2.2.2.2.2.2.2.2.2.2.2.2.2 σ τ hRl
        have hCR := hadC σ'
        refine lw_cV (As := []) (rest := []) S (m_X9_clear l hDC e1) (cwV 0 S.2.2.2.2 gL_law_X9_clear rfl rfl rfl (by decide +kernel) ⟨Nat.le_of_ble_eq_true rfl, Nat.le_of_ble_eq_true rfl⟩) hKC hPc hPr hRC hS hZ hCA 0 9 rfl rfl rfl hl.1 rfl (Nat.le_of_ble_eq_true rfl) dL_law_460 hcs (fun H locs hPc hPr hS => ?_)
        refine lv_aload_n hx hb dL_law_463 rfl (lv_at hl 2 rfl) ?_
        refine lw_cV (As := []) (rest := [.int r]) S (m_X10_clear l hDR e2) (cwV 0 S.2.2.2.2 gL_law_X10_clear rfl rfl rfl (by decide +kernel) ⟨Nat.le_of_ble_eq_true rfl, Nat.le_of_ble_eq_true rfl⟩) hKR hPr hPc hCR hS hZ hRA 0 10 rfl rfl rfl hl.1 rfl (Nat.le_of_ble_eq_true rfl) dL_law_464 hcs (fun H locs hPr hPc hS => ?_)
        refine lv_icmp_eq (tgt := 472) hx hb dL_law_467 (by decide) (fun _ => ?_) (fun c => absurd rfl c)
        exact K472 _ _ _ _ () hPc hPr hS hRl ls hl
      refine lv_tableOut (tgt := 472) hx hb dL_law_32 (by have q0 := lv_neT o0 (a := 0) (by decide); have q1 := lv_neT o1 (a := 1) (by decide); have q2 := lv_neT o2 (a := 2) (by decide); have q3 := lv_neT o3 (a := 3) (by decide); have q4 := lv_neT o4 (a := 4) (by decide); have q5 := lv_neT o5 (a := 5) (by decide); have q6 := lv_neT o6 (a := 6) (by decide); have q7 := lv_neT o7 (a := 7) (by decide); have q8 := lv_neT o8 (a := 8) (by decide); have q9 := lv_neT o9 (a := 9) (by decide); have q10 := lv_neT o10 (a := 10) (by decide); have q11 := lv_neT o11 (a := 11) (by decide); have q12 := lv_neT o12 (a := 12) (by decide); have q13 := lv_neT o13 (a := 13) (by decide); omega) (by decide) ?_
      exact K472 _ _ _ _ () hPc hPr hS hRl ls hl
