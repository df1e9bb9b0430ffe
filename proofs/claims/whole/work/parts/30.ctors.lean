/-! ===== constructors ===== -/
theorem pt_hbi {k : Nat} (h : k ≤ 1000) : k * componentBytes .int ≤ 536870912 := by
  have e : componentBytes .int = 4 := rfl
  rw [e]; omega
theorem pt_hbb {k : Nat} (h : k ≤ 1000) : k * componentBytes .boolean ≤ 536870912 := by
  have e : componentBytes .boolean = 1 := rfl
  rw [e]; omega
theorem pt_a0i (n : Nat) (cA : ClassId) : vp_cell cA (n, .inl (fun _ => 0)) = arrV cA n (fun _ => defaultValue .int) := rfl
theorem pt_a0b (n : Nat) (cA : ClassId) : vp_cell cA (n, .inl (fun _ => 0)) = arrV cA n (fun _ => defaultValue .boolean) := rfl
def pt_mn : List (String × Nat × MethodName × String) := [(RX9, 11, yX7_init, "PackThreads"), (RX9, 18, yX5_init, "PackThreads"), (RX9, 25, yX3_init, "PackThreads"), (RX6, 19, yX1_init, "PackThreads"), (RX6, 26, yX4_init, "PackThreads"), (RX6, 33, yX0_init, "PackThreads")]
def pt_cn (U : State) : Prop := (∀ q ∈ pt_mn, va_Nw (.methodLinkNest q.1 q.2.1 q.2.2.1 q.2.2.2) U) ∧ va_AO "PackThreads$Worker" U
theorem pt_cn.moved {s U : State} (hW : s.WarmedH U.vm) (h : pt_cn s) : pt_cn U := ⟨fun q hq => (h.1 q hq).warmM hW, h.2.moved hW.alike⟩
theorem pt_cn.same {u U : State} (hv : u.vm = U.vm) (h : pt_cn u) : pt_cn U := ⟨fun q hq => (h.1 q hq).same rfl hv, h.2.moved (by rw [hv]; exact Vm.Alike.refl _)⟩
def pt_cPre (D : va_G) (w : va_W) (sz : Nat) (U : State) : Prop := U.heap.size = sz ∧ va_P D vwCl w U.heap ∧ va_K D vwCl [] U ∧ va_D (fun _ => True) w ∧ pt_cn U
theorem pt_cblind {av : List Value} {D : va_G} {w : va_W} {sz : Nat} : FrameBlind (va_Pc av (pt_cPre D w sz)) := fun a U g mk q => by
  obtain ⟨q0, q1, qP, qK, qD, qN⟩ := q
  exact ⟨q0, q1, qP, va_K.moved (u := U) (U := U.calling g mk a) (Vm.Alike.refl U.vm) qK, qD, pt_cn.same (u := U) (U := U.calling g mk a) rfl qN⟩

def w0_X0 (h0 : Nat) : va_W := [(h0, .inr (0, [.null, .null, .int 0]))]
def w1_X0 (h0 : Nat) (q : Nat → Nat) (cs : Nat → ClassId) : va_W := [(h0, .inr (0, [.ref (q 0), .ref (q 1), .int 0])), ((q 0), .inl ((cs 0), 40, .inl (fun _ => 0))), ((q 1), .inl ((cs 1), 40, .inl (fun _ => 0)))]
def t1_X0 (cs : Nat → ClassId) : List (ClassId × FieldType) := [((cs 0), .boolean), ((cs 1), .int)]
set_option maxHeartbeats 4000000 in
set_option maxRecDepth 100000 in
theorem k_X0_init (l : Launch) {D : va_G} (h0 sz : Nat) : Met l yX0_init wsX0_init ({ frames := 1, cells := 2, slots := 80, locals := 12 }) (va_Pc [.ref h0] (pt_cPre D (w0_X0 h0) sz)) (va_Qv (fun (_ : (Nat → Nat) × (Nat → ClassId)) => True) (fun u t => va_P D vwCl (w1_X0 h0 u.1 u.2) t.heap ∧ va_K D vwCl (t1_X0 u.2) t ∧ va_D (va_A (w0_X0 h0) sz) (w1_X0 h0 u.1 u.2)) (va_A (w0_X0 h0) sz)) 2 80 (va_A (w0_X0 h0) sz) := by
  refine Met.ofW (cc := cX0_init) (maxL := 1) (ret := none) (by decide) rfl ?_
  intro p e s m args below meth c s₁ B hml hv
  obtain ⟨rfl, hsz, hP, hK, hD0, hcn⟩ := hv
  have hx := B.exec
  have hb := B.bytes
  have hr := B.returns
  have hts := atoms_spec (ws := wsX0_init) B.pre
  have hown : s.vm.findClass RX0 = some m.cls := findClass_of_methodNamed B.named
  have hlk := B.notSynchronized
  have hin : meth.name = "<init>" := (name_of_methodNamed B.named B.method).1
  subst hsz
  have hD := hD0.self (sz := s.heap.size)
  generalize hAe : va_A (w0_X0 h0) s.heap.size = A at hD ⊢
  have hA : ∀ q : Nat, s.heap.size ≤ q → A q := fun q h => by rw [← hAe]; exact Or.inr h
  have hS : va_S A s.heap s.heap [] := va_S.rf
  have hP : va_P D vwCl [(h0, .inr (0, [.null, .null, .int 0]))] s.heap := hP
  have hD : va_D A [(h0, .inr (0, [.null, .null, .int 0]))] := hD
  have hiX0 : ∀ w ∈ wsX00, w ∈ wsX0_init := fun w h => List.mem_cons_of_mem _ (List.mem_append_right _ h)
  have ho1 : (Cond.methodLink RX0 3 objectInit).before _ s = true := hts _ (List.mem_of_getElem? (i := 1) rfl)
  have ho2 : (Cond.instanceMethod objectInit).before _ s = true := hts _ (List.mem_of_getElem? (i := 2) rfl)
  have ho3 : (Cond.code objectInit ⟨#[0xb1]⟩ 1 none).before _ s = true := hts _ (List.mem_of_getElem? (i := 3) rfl)
  have hac_boolean : (Cond.arrayClass .boolean).before _ s = true := hts _ (List.mem_of_getElem? (i := 4) rfl)
  have hf9 : (Cond.fieldLink RX0 9 "PackThreads$Failed" "before" "[Z").before _ s = true := hts _ (List.mem_of_getElem? (i := 5) rfl)
  have hac_int : (Cond.arrayClass .int).before _ s = true := hts _ (List.mem_of_getElem? (i := 6) rfl)
  have hf15 : (Cond.fieldLink RX0 15 "PackThreads$Failed" "line" "[I").before _ s = true := hts _ (List.mem_of_getElem? (i := 7) rfl)
  have hl := lv_entry ([.ref h0]) (n := 1) (Nat.le_of_ble_eq_true rfl)
  rw [lg_entry_eq]
  generalize (lg_sl ([.ref h0]) ++ List.replicate (1 - (lg_sl ([.ref h0])).length) Slot.unset).toArray = ls at hl ⊢
  have hl : lv_has ls 1 [(0, .ref h0)] := hl
  refine lv_aload_n hx hb dX0_init_0 rfl (lv_at hl 0 rfl) ?_
  refine W.objInit hx hb hown ho1 ho2 ho3 rfl (by rw [hml]; exact hl.1) rfl dX0_init_1 (Nat.le_of_ble_eq_true rfl) (Nat.le_of_ble_eq_true rfl) ?_
  refine W.eq (g2 := F0 m 4 ls []) rfl ?_
  refine lv_aload_n hx hb dX0_init_4 rfl (lv_at hl 0 rfl) ?_
  refine lv_bipush (v := 40) hx hb dX0_init_5 (by decide) ?_
  refine va_newa (atype := .boolean) (ty := .boolean) (n := 40) (N' := 40) (a0 := (40, .inl (fun _ => 0))) hx hb hac_boolean rfl hK hP hD hS hA (pt_a0b 40) (by decide) (by decide) (pt_hbb (by omega)) (Nat.le_of_ble_eq_true rfl) (Nat.le_of_ble_eq_true rfl) dX0_init_7 (fun q5 c5c H hK hP hD hS => ?_)
  have hP : va_P D vwCl [(h0, .inr (0, [.null, .null, .int 0])), (q5, .inl (c5c, 40, .inl (fun _ => 0)))] H := hP
  have hD : va_D A [(h0, .inr (0, [.null, .null, .int 0])), (q5, .inl (c5c, 40, .inl (fun _ => 0)))] := hD
  have hK : va_K D vwCl [(c5c, .boolean)] s := hK
  refine va_putF (D := D) (ci := 0) (v := .ref q5) (ty := .array .boolean) (C := RX0) (T := TX0) (N := 3) hx hb hts hiX0 tyX0 tyX0_ok nmX0 hown hK hP hD hS 0 rfl rfl 0 (by decide) hf9 (fun _ h9 => h9) rfl hin rfl (by decide +kernel) rfl rfl (Nat.le_of_ble_eq_true rfl) dX0_init_9 (fun H locs hP hD hS => ?_)
  have hP : va_P D vwCl [(h0, .inr (0, [.ref q5, .null, .int 0])), (q5, .inl (c5c, 40, .inl (fun _ => 0)))] H := hP
  have hD : va_D A [(h0, .inr (0, [.ref q5, .null, .int 0])), (q5, .inl (c5c, 40, .inl (fun _ => 0)))] := hD
  refine lv_aload_n hx hb dX0_init_12 rfl (lv_at hl 0 rfl) ?_
  refine lv_bipush (v := 40) hx hb dX0_init_13 (by decide) ?_
  refine va_newa (atype := .int) (ty := .int) (n := 40) (N' := 40) (a0 := (40, .inl (fun _ => 0))) hx hb hac_int rfl hK hP hD hS hA (pt_a0i 40) (by decide) (by decide) (pt_hbi (by omega)) (Nat.le_of_ble_eq_true rfl) (Nat.le_of_ble_eq_true rfl) dX0_init_15 (fun q14 c14c H hK hP hD hS => ?_)
  have hP : va_P D vwCl [(h0, .inr (0, [.ref q5, .null, .int 0])), (q5, .inl (c5c, 40, .inl (fun _ => 0))), (q14, .inl (c14c, 40, .inl (fun _ => 0)))] H := hP
  have hD : va_D A [(h0, .inr (0, [.ref q5, .null, .int 0])), (q5, .inl (c5c, 40, .inl (fun _ => 0))), (q14, .inl (c14c, 40, .inl (fun _ => 0)))] := hD
  have hK : va_K D vwCl [(c5c, .boolean), (c14c, .int)] s := hK
  refine va_putF (D := D) (ci := 0) (v := .ref q14) (ty := .array .int) (C := RX0) (T := TX0) (N := 3) hx hb hts hiX0 tyX0 tyX0_ok nmX0 hown hK hP hD hS 0 rfl rfl 1 (by decide) hf15 (fun _ h9 => h9) rfl hin rfl (by decide +kernel) rfl rfl (Nat.le_of_ble_eq_true rfl) dX0_init_17 (fun H locs hP hD hS => ?_)
  have hP : va_P D vwCl [(h0, .inr (0, [.ref q5, .ref q14, .int 0])), (q5, .inl (c5c, 40, .inl (fun _ => 0))), (q14, .inl (c14c, 40, .inl (fun _ => 0)))] H := hP
  have hD : va_D A [(h0, .inr (0, [.ref q5, .ref q14, .int 0])), (q5, .inl (c5c, 40, .inl (fun _ => 0))), (q14, .inl (c14c, 40, .inl (fun _ => 0)))] := hD
  have hP9 := hP.sub (ws' := w1_X0 h0 (fun j => [q5, q14].getD j 0) (fun j => [c5c, c14c].getD j 0)) [0, 1, 2] rfl
  have hD9 := hD.sub (ws' := w1_X0 h0 (fun j => [q5, q14].getD j 0) (fun j => [c5c, c14c].getD j 0)) [0, 1, 2] (by decide) rfl
  have hK9 := hK.sub (tys' := t1_X0 (fun j => [c5c, c14c].getD j 0)) [0, 1] rfl
  refine W.widen (k := 2) (n := 80) (Nat.le_of_ble_eq_true rfl) (Nat.le_of_ble_eq_true rfl) ?_
  exact W.vret hx hb hr (fun t ht hW => ⟨⟨((fun j => [q5, q14].getD j 0), (fun j => [c5c, c14c].getD j 0)), rfl, trivial, by rw [ht]; exact hP9, va_K.moved hW.alike hK9, hD9⟩, hS.F ht⟩) hS.2.2 dX0_init_20 hlk

def w0_X1 (h0 : Nat) : va_W := [(h0, .inr (1, [.null, .int 0, .int 0]))]
def w1_X1 (h0 : Nat) (q : Nat → Nat) (cs : Nat → ClassId) : va_W := [(h0, .inr (1, [.ref (q 0), .int 0, .int 0])), ((q 0), .inl ((cs 0), 6, .inr (.inr (.inr (.inr (fun _ => none))))))]
def t1_X1 (cs : Nat → ClassId) : List (ClassId × FieldType) := [((cs 0), .object "PackThreads$Worker")]
set_option maxHeartbeats 4000000 in
set_option maxRecDepth 100000 in
theorem k_X1_init (l : Launch) {D : va_G} (h0 sz : Nat) : Met l yX1_init wsX1_init ({ frames := 1, cells := 1, slots := 6, locals := 12 }) (va_Pc [.ref h0] (pt_cPre D (w0_X1 h0) sz)) (va_Qv (fun (_ : (Nat → Nat) × (Nat → ClassId)) => True) (fun u t => va_P D vwCl (w1_X1 h0 u.1 u.2) t.heap ∧ va_K D vwCl (t1_X1 u.2) t ∧ va_D (va_A (w0_X1 h0) sz) (w1_X1 h0 u.1 u.2)) (va_A (w0_X1 h0) sz)) 1 6 (va_A (w0_X1 h0) sz) := by
  refine Met.ofW (cc := cX1_init) (maxL := 1) (ret := none) (by decide) rfl ?_
  intro p e s m args below meth c s₁ B hml hv
  obtain ⟨rfl, hsz, hP, hK, hD0, hcn⟩ := hv
  have hx := B.exec
  have hb := B.bytes
  have hr := B.returns
  have hts := atoms_spec (ws := wsX1_init) B.pre
  have hown : s.vm.findClass RX1 = some m.cls := findClass_of_methodNamed B.named
  have hlk := B.notSynchronized
  have hin : meth.name = "<init>" := (name_of_methodNamed B.named B.method).1
  subst hsz
  have hD := hD0.self (sz := s.heap.size)
  generalize hAe : va_A (w0_X1 h0) s.heap.size = A at hD ⊢
  have hA : ∀ q : Nat, s.heap.size ≤ q → A q := fun q h => by rw [← hAe]; exact Or.inr h
  have hS : va_S A s.heap s.heap [] := va_S.rf
  have hP : va_P D vwCl [(h0, .inr (1, [.null, .int 0, .int 0]))] s.heap := hP
  have hD : va_D A [(h0, .inr (1, [.null, .int 0, .int 0]))] := hD
  have hiX1 : ∀ w ∈ wsX10, w ∈ wsX1_init := fun w h => List.mem_cons_of_mem _ (List.mem_append_right _ h)
  have ho1 : (Cond.methodLink RX1 3 objectInit).before _ s = true := hts _ (List.mem_of_getElem? (i := 1) rfl)
  have ho2 : (Cond.instanceMethod objectInit).before _ s = true := hts _ (List.mem_of_getElem? (i := 2) rfl)
  have ho3 : (Cond.code objectInit ⟨#[0xb1]⟩ 1 none).before _ s = true := hts _ (List.mem_of_getElem? (i := 3) rfl)
  have hl9 : (Cond.classLink RX1 9 RX8).before _ s = true := hts _ (List.mem_of_getElem? (i := 4) rfl)
  have hf11 : (Cond.fieldLink RX1 11 "PackThreads$Memory" "line" "[LPackThreads$Worker;").before _ s = true := hts _ (List.mem_of_getElem? (i := 5) rfl)
  have hl := lv_entry ([.ref h0]) (n := 1) (Nat.le_of_ble_eq_true rfl)
  rw [lg_entry_eq]
  generalize (lg_sl ([.ref h0]) ++ List.replicate (1 - (lg_sl ([.ref h0])).length) Slot.unset).toArray = ls at hl ⊢
  have hl : lv_has ls 1 [(0, .ref h0)] := hl
  refine lv_aload_n hx hb dX1_init_0 rfl (lv_at hl 0 rfl) ?_
  refine W.objInit hx hb hown ho1 ho2 ho3 rfl (by rw [hml]; exact hl.1) rfl dX1_init_1 (Nat.le_of_ble_eq_true rfl) (Nat.le_of_ble_eq_true rfl) ?_
  refine W.eq (g2 := F0 m 4 ls []) rfl ?_
  refine lv_aload_n hx hb dX1_init_4 rfl (lv_at hl 0 rfl) ?_
  refine lv_bipush (v := 6) hx hb dX1_init_5 (by decide) ?_
  refine va_newq (C := "PackThreads$Worker") (n := 6) (N' := 6) hx hb hown hl9 hcn.2 hK hP hD hS hA (by decide) (by decide) (by omega) (Nat.le_of_ble_eq_true rfl) (Nat.le_of_ble_eq_true rfl) dX1_init_7 (fun q5 c5c H hK hP hD hS => ?_)
  have hP : va_P D vwCl [(h0, .inr (1, [.null, .int 0, .int 0])), (q5, .inl (c5c, 6, .inr (.inr (.inr (.inr (fun _ => none))))))] H := hP
  have hD : va_D A [(h0, .inr (1, [.null, .int 0, .int 0])), (q5, .inl (c5c, 6, .inr (.inr (.inr (.inr (fun _ => none))))))] := hD
  have hK : va_K D vwCl [(c5c, .object "PackThreads$Worker")] s := hK
  refine va_putF (D := D) (ci := 1) (v := .ref q5) (ty := .array (.object "PackThreads$Worker")) (C := RX1) (T := TX1) (N := 3) hx hb hts hiX1 tyX1 tyX1_ok nmX1 hown hK hP hD hS 0 rfl rfl 0 (by decide) hf11 (fun _ h9 => h9) rfl hin rfl (by decide +kernel) rfl rfl (Nat.le_of_ble_eq_true rfl) dX1_init_10 (fun H locs hP hD hS => ?_)
  have hP : va_P D vwCl [(h0, .inr (1, [.ref q5, .int 0, .int 0])), (q5, .inl (c5c, 6, .inr (.inr (.inr (.inr (fun _ => none))))))] H := hP
  have hD : va_D A [(h0, .inr (1, [.ref q5, .int 0, .int 0])), (q5, .inl (c5c, 6, .inr (.inr (.inr (.inr (fun _ => none))))))] := hD
  have hP9 := hP.sub (ws' := w1_X1 h0 (fun j => [q5].getD j 0) (fun j => [c5c].getD j 0)) [0, 1] rfl
  have hD9 := hD.sub (ws' := w1_X1 h0 (fun j => [q5].getD j 0) (fun j => [c5c].getD j 0)) [0, 1] (by decide) rfl
  have hK9 := hK.sub (tys' := t1_X1 (fun j => [c5c].getD j 0)) [0] rfl
  refine W.widen (k := 1) (n := 6) (Nat.le_of_ble_eq_true rfl) (Nat.le_of_ble_eq_true rfl) ?_
  exact W.vret hx hb hr (fun t ht hW => ⟨⟨((fun j => [q5].getD j 0), (fun j => [c5c].getD j 0)), rfl, trivial, by rw [ht]; exact hP9, va_K.moved hW.alike hK9, hD9⟩, hS.F ht⟩) hS.2.2 dX1_init_13 hlk

def w0_X2 (h0 : Nat) : va_W := [(h0, .inr (2, [.null, .null, .null, .null, .null, .int 0, .int 0, .int 0, .int 0]))]
def w1_X2 (h0 : Nat) (a1 : Nat) (a2 : Nat) (q : Nat → Nat) (cs : Nat → ClassId) : va_W := [(h0, .inr (2, [.ref a1, .ref a2, .ref (q 0), .ref (q 1), .ref (q 2), .int 0, .int 0, .int 0, .int 0])), ((q 0), .inl ((cs 0), 240, .inl (fun _ => 0))), ((q 1), .inl ((cs 1), 40, .inl (fun _ => 0))), ((q 2), .inl ((cs 2), 40, .inl (fun _ => 0)))]
def t1_X2 (cs : Nat → ClassId) : List (ClassId × FieldType) := [((cs 0), .int), ((cs 1), .int), ((cs 2), .int)]
set_option maxHeartbeats 4000000 in
set_option maxRecDepth 100000 in
theorem k_X2_init (l : Launch) {D : va_G} (h0 sz : Nat) (a1 : Nat) (a2 : Nat) : Met l yX2_init wsX2_init ({ frames := 1, cells := 3, slots := 320, locals := 12 }) (va_Pc [.ref h0, .ref a1, .ref a2] (pt_cPre D (w0_X2 h0) sz)) (va_Qv (fun (_ : (Nat → Nat) × (Nat → ClassId)) => True) (fun u t => va_P D vwCl (w1_X2 h0 a1 a2 u.1 u.2) t.heap ∧ va_K D vwCl (t1_X2 u.2) t ∧ va_D (va_A (w0_X2 h0) sz) (w1_X2 h0 a1 a2 u.1 u.2)) (va_A (w0_X2 h0) sz)) 3 320 (va_A (w0_X2 h0) sz) := by
  refine Met.ofW (cc := cX2_init) (maxL := 3) (ret := none) (by decide) rfl ?_
  intro p e s m args below meth c s₁ B hml hv
  obtain ⟨rfl, hsz, hP, hK, hD0, hcn⟩ := hv
  have hx := B.exec
  have hb := B.bytes
  have hr := B.returns
  have hts := atoms_spec (ws := wsX2_init) B.pre
  have hown : s.vm.findClass RX2 = some m.cls := findClass_of_methodNamed B.named
  have hlk := B.notSynchronized
  have hin : meth.name = "<init>" := (name_of_methodNamed B.named B.method).1
  subst hsz
  have hD := hD0.self (sz := s.heap.size)
  generalize hAe : va_A (w0_X2 h0) s.heap.size = A at hD ⊢
  have hA : ∀ q : Nat, s.heap.size ≤ q → A q := fun q h => by rw [← hAe]; exact Or.inr h
  have hS : va_S A s.heap s.heap [] := va_S.rf
  have hP : va_P D vwCl [(h0, .inr (2, [.null, .null, .null, .null, .null, .int 0, .int 0, .int 0, .int 0]))] s.heap := hP
  have hD : va_D A [(h0, .inr (2, [.null, .null, .null, .null, .null, .int 0, .int 0, .int 0, .int 0]))] := hD
  have hiX2 : ∀ w ∈ wsX20, w ∈ wsX2_init := fun w h => List.mem_cons_of_mem _ (List.mem_append_right _ h)
  have ho1 : (Cond.methodLink RX2 3 objectInit).before _ s = true := hts _ (List.mem_of_getElem? (i := 1) rfl)
  have ho2 : (Cond.instanceMethod objectInit).before _ s = true := hts _ (List.mem_of_getElem? (i := 2) rfl)
  have ho3 : (Cond.code objectInit ⟨#[0xb1]⟩ 1 none).before _ s = true := hts _ (List.mem_of_getElem? (i := 3) rfl)
  have hac_int : (Cond.arrayClass .int).before _ s = true := hts _ (List.mem_of_getElem? (i := 4) rfl)
  have hf9 : (Cond.fieldLink RX2 9 "PackThreads$Packs" "bytes" "[I").before _ s = true := hts _ (List.mem_of_getElem? (i := 5) rfl)
  have hf15 : (Cond.fieldLink RX2 15 "PackThreads$Packs" "ends" "[I").before _ s = true := hts _ (List.mem_of_getElem? (i := 6) rfl)
  have hf18 : (Cond.fieldLink RX2 18 "PackThreads$Packs" "tokens" "[I").before _ s = true := hts _ (List.mem_of_getElem? (i := 7) rfl)
  have hf21 : (Cond.fieldLink RX2 21 "PackThreads$Packs" "text" "LPackThreads$Text;").before _ s = true := hts _ (List.mem_of_getElem? (i := 8) rfl)
  have hf25 : (Cond.fieldLink RX2 25 "PackThreads$Packs" "settings" "LPackThreads$Settings;").before _ s = true := hts _ (List.mem_of_getElem? (i := 9) rfl)
  have hl := lv_entry ([.ref h0, .ref a1, .ref a2]) (n := 3) (Nat.le_of_ble_eq_true rfl)
  rw [lg_entry_eq]
  generalize (lg_sl ([.ref h0, .ref a1, .ref a2]) ++ List.replicate (3 - (lg_sl ([.ref h0, .ref a1, .ref a2])).length) Slot.unset).toArray = ls at hl ⊢
  have hl : lv_has ls 3 [(0, .ref h0), (1, .ref a1), (2, .ref a2)] := hl
  refine lv_aload_n hx hb dX2_init_0 rfl (lv_at hl 0 rfl) ?_
  refine W.objInit hx hb hown ho1 ho2 ho3 rfl (by rw [hml]; exact hl.1) rfl dX2_init_1 (Nat.le_of_ble_eq_true rfl) (Nat.le_of_ble_eq_true rfl) ?_
  refine W.eq (g2 := F0 m 4 ls []) rfl ?_
  refine lv_aload_n hx hb dX2_init_4 rfl (lv_at hl 0 rfl) ?_
  refine lv_sipush (v := 240) hx hb dX2_init_5 (by decide) ?_
  refine va_newa (atype := .int) (ty := .int) (n := 240) (N' := 240) (a0 := (240, .inl (fun _ => 0))) hx hb hac_int rfl hK hP hD hS hA (pt_a0i 240) (by decide) (by decide) (pt_hbi (by omega)) (Nat.le_of_ble_eq_true rfl) (Nat.le_of_ble_eq_true rfl) dX2_init_8 (fun q5 c5c H hK hP hD hS => ?_)
  have hP : va_P D vwCl [(h0, .inr (2, [.null, .null, .null, .null, .null, .int 0, .int 0, .int 0, .int 0])), (q5, .inl (c5c, 240, .inl (fun _ => 0)))] H := hP
  have hD : va_D A [(h0, .inr (2, [.null, .null, .null, .null, .null, .int 0, .int 0, .int 0, .int 0])), (q5, .inl (c5c, 240, .inl (fun _ => 0)))] := hD
  have hK : va_K D vwCl [(c5c, .int)] s := hK
  refine va_putF (D := D) (ci := 2) (v := .ref q5) (ty := .array .int) (C := RX2) (T := TX2) (N := 9) hx hb hts hiX2 tyX2 tyX2_ok nmX2 hown hK hP hD hS 0 rfl rfl 2 (by decide) hf9 (fun _ h9 => h9) rfl hin rfl (by decide +kernel) rfl rfl (Nat.le_of_ble_eq_true rfl) dX2_init_10 (fun H locs hP hD hS => ?_)
  have hP : va_P D vwCl [(h0, .inr (2, [.null, .null, .ref q5, .null, .null, .int 0, .int 0, .int 0, .int 0])), (q5, .inl (c5c, 240, .inl (fun _ => 0)))] H := hP
  have hD : va_D A [(h0, .inr (2, [.null, .null, .ref q5, .null, .null, .int 0, .int 0, .int 0, .int 0])), (q5, .inl (c5c, 240, .inl (fun _ => 0)))] := hD
  refine lv_aload_n hx hb dX2_init_13 rfl (lv_at hl 0 rfl) ?_
  refine lv_bipush (v := 40) hx hb dX2_init_14 (by decide) ?_
  refine va_newa (atype := .int) (ty := .int) (n := 40) (N' := 40) (a0 := (40, .inl (fun _ => 0))) hx hb hac_int rfl hK hP hD hS hA (pt_a0i 40) (by decide) (by decide) (pt_hbi (by omega)) (Nat.le_of_ble_eq_true rfl) (Nat.le_of_ble_eq_true rfl) dX2_init_16 (fun q14 c14c H hK hP hD hS => ?_)
  have hP : va_P D vwCl [(h0, .inr (2, [.null, .null, .ref q5, .null, .null, .int 0, .int 0, .int 0, .int 0])), (q5, .inl (c5c, 240, .inl (fun _ => 0))), (q14, .inl (c14c, 40, .inl (fun _ => 0)))] H := hP
  have hD : va_D A [(h0, .inr (2, [.null, .null, .ref q5, .null, .null, .int 0, .int 0, .int 0, .int 0])), (q5, .inl (c5c, 240, .inl (fun _ => 0))), (q14, .inl (c14c, 40, .inl (fun _ => 0)))] := hD
  have hK : va_K D vwCl [(c5c, .int), (c14c, .int)] s := hK
  refine va_putF (D := D) (ci := 2) (v := .ref q14) (ty := .array .int) (C := RX2) (T := TX2) (N := 9) hx hb hts hiX2 tyX2 tyX2_ok nmX2 hown hK hP hD hS 0 rfl rfl 3 (by decide) hf15 (fun _ h9 => h9) rfl hin rfl (by decide +kernel) rfl rfl (Nat.le_of_ble_eq_true rfl) dX2_init_18 (fun H locs hP hD hS => ?_)
  have hP : va_P D vwCl [(h0, .inr (2, [.null, .null, .ref q5, .ref q14, .null, .int 0, .int 0, .int 0, .int 0])), (q5, .inl (c5c, 240, .inl (fun _ => 0))), (q14, .inl (c14c, 40, .inl (fun _ => 0)))] H := hP
  have hD : va_D A [(h0, .inr (2, [.null, .null, .ref q5, .ref q14, .null, .int 0, .int 0, .int 0, .int 0])), (q5, .inl (c5c, 240, .inl (fun _ => 0))), (q14, .inl (c14c, 40, .inl (fun _ => 0)))] := hD
  refine lv_aload_n hx hb dX2_init_21 rfl (lv_at hl 0 rfl) ?_
  refine lv_bipush (v := 40) hx hb dX2_init_22 (by decide) ?_
  refine va_newa (atype := .int) (ty := .int) (n := 40) (N' := 40) (a0 := (40, .inl (fun _ => 0))) hx hb hac_int rfl hK hP hD hS hA (pt_a0i 40) (by decide) (by decide) (pt_hbi (by omega)) (Nat.le_of_ble_eq_true rfl) (Nat.le_of_ble_eq_true rfl) dX2_init_24 (fun q23 c23c H hK hP hD hS => ?_)
  have hP : va_P D vwCl [(h0, .inr (2, [.null, .null, .ref q5, .ref q14, .null, .int 0, .int 0, .int 0, .int 0])), (q5, .inl (c5c, 240, .inl (fun _ => 0))), (q14, .inl (c14c, 40, .inl (fun _ => 0))), (q23, .inl (c23c, 40, .inl (fun _ => 0)))] H := hP
  have hD : va_D A [(h0, .inr (2, [.null, .null, .ref q5, .ref q14, .null, .int 0, .int 0, .int 0, .int 0])), (q5, .inl (c5c, 240, .inl (fun _ => 0))), (q14, .inl (c14c, 40, .inl (fun _ => 0))), (q23, .inl (c23c, 40, .inl (fun _ => 0)))] := hD
  have hK : va_K D vwCl [(c5c, .int), (c14c, .int), (c23c, .int)] s := hK
  refine va_putF (D := D) (ci := 2) (v := .ref q23) (ty := .array .int) (C := RX2) (T := TX2) (N := 9) hx hb hts hiX2 tyX2 tyX2_ok nmX2 hown hK hP hD hS 0 rfl rfl 4 (by decide) hf18 (fun _ h9 => h9) rfl hin rfl (by decide +kernel) rfl rfl (Nat.le_of_ble_eq_true rfl) dX2_init_26 (fun H locs hP hD hS => ?_)
  have hP : va_P D vwCl [(h0, .inr (2, [.null, .null, .ref q5, .ref q14, .ref q23, .int 0, .int 0, .int 0, .int 0])), (q5, .inl (c5c, 240, .inl (fun _ => 0))), (q14, .inl (c14c, 40, .inl (fun _ => 0))), (q23, .inl (c23c, 40, .inl (fun _ => 0)))] H := hP
  have hD : va_D A [(h0, .inr (2, [.null, .null, .ref q5, .ref q14, .ref q23, .int 0, .int 0, .int 0, .int 0])), (q5, .inl (c5c, 240, .inl (fun _ => 0))), (q14, .inl (c14c, 40, .inl (fun _ => 0))), (q23, .inl (c23c, 40, .inl (fun _ => 0)))] := hD
  refine lv_aload_n hx hb dX2_init_29 rfl (lv_at hl 0 rfl) ?_
  refine lv_aload_n hx hb dX2_init_30 rfl (lv_at hl 1 rfl) ?_
  refine va_putF (D := D) (ci := 2) (v := .ref a1) (ty := .object "PackThreads$Text") (C := RX2) (T := TX2) (N := 9) hx hb hts hiX2 tyX2 tyX2_ok nmX2 hown hK hP hD hS 0 rfl rfl 0 (by decide) hf21 (fun _ h9 => h9) rfl hin rfl (by decide +kernel) rfl rfl (Nat.le_of_ble_eq_true rfl) dX2_init_31 (fun H locs hP hD hS => ?_)
  have hP : va_P D vwCl [(h0, .inr (2, [.ref a1, .null, .ref q5, .ref q14, .ref q23, .int 0, .int 0, .int 0, .int 0])), (q5, .inl (c5c, 240, .inl (fun _ => 0))), (q14, .inl (c14c, 40, .inl (fun _ => 0))), (q23, .inl (c23c, 40, .inl (fun _ => 0)))] H := hP
  have hD : va_D A [(h0, .inr (2, [.ref a1, .null, .ref q5, .ref q14, .ref q23, .int 0, .int 0, .int 0, .int 0])), (q5, .inl (c5c, 240, .inl (fun _ => 0))), (q14, .inl (c14c, 40, .inl (fun _ => 0))), (q23, .inl (c23c, 40, .inl (fun _ => 0)))] := hD
  refine lv_aload_n hx hb dX2_init_34 rfl (lv_at hl 0 rfl) ?_
  refine lv_aload_n hx hb dX2_init_35 rfl (lv_at hl 2 rfl) ?_
  refine va_putF (D := D) (ci := 2) (v := .ref a2) (ty := .object "PackThreads$Settings") (C := RX2) (T := TX2) (N := 9) hx hb hts hiX2 tyX2 tyX2_ok nmX2 hown hK hP hD hS 0 rfl rfl 1 (by decide) hf25 (fun _ h9 => h9) rfl hin rfl (by decide +kernel) rfl rfl (Nat.le_of_ble_eq_true rfl) dX2_init_36 (fun H locs hP hD hS => ?_)
  have hP : va_P D vwCl [(h0, .inr (2, [.ref a1, .ref a2, .ref q5, .ref q14, .ref q23, .int 0, .int 0, .int 0, .int 0])), (q5, .inl (c5c, 240, .inl (fun _ => 0))), (q14, .inl (c14c, 40, .inl (fun _ => 0))), (q23, .inl (c23c, 40, .inl (fun _ => 0)))] H := hP
  have hD : va_D A [(h0, .inr (2, [.ref a1, .ref a2, .ref q5, .ref q14, .ref q23, .int 0, .int 0, .int 0, .int 0])), (q5, .inl (c5c, 240, .inl (fun _ => 0))), (q14, .inl (c14c, 40, .inl (fun _ => 0))), (q23, .inl (c23c, 40, .inl (fun _ => 0)))] := hD
  have hP9 := hP.sub (ws' := w1_X2 h0 a1 a2 (fun j => [q5, q14, q23].getD j 0) (fun j => [c5c, c14c, c23c].getD j 0)) [0, 1, 2, 3] rfl
  have hD9 := hD.sub (ws' := w1_X2 h0 a1 a2 (fun j => [q5, q14, q23].getD j 0) (fun j => [c5c, c14c, c23c].getD j 0)) [0, 1, 2, 3] (by decide) rfl
  have hK9 := hK.sub (tys' := t1_X2 (fun j => [c5c, c14c, c23c].getD j 0)) [0, 1, 2] rfl
  refine W.widen (k := 3) (n := 320) (Nat.le_of_ble_eq_true rfl) (Nat.le_of_ble_eq_true rfl) ?_
  exact W.vret hx hb hr (fun t ht hW => ⟨⟨((fun j => [q5, q14, q23].getD j 0), (fun j => [c5c, c14c, c23c].getD j 0)), rfl, trivial, by rw [ht]; exact hP9, va_K.moved hW.alike hK9, hD9⟩, hS.F ht⟩) hS.2.2 dX2_init_39 hlk

def w0_X3 (h0 : Nat) : va_W := [(h0, .inr (3, [.null, .null, .null]))]
def w1_X3 (h0 : Nat) (q : Nat → Nat) (cs : Nat → ClassId) : va_W := [(h0, .inr (3, [.ref (q 0), .ref (q 1), .ref (q 2)])), ((q 0), .inl ((cs 0), 40, .inl (fun _ => 0))), ((q 1), .inl ((cs 1), 40, .inl (fun _ => 0))), ((q 2), .inl ((cs 2), 40, .inl (fun _ => 0)))]
def t1_X3 (cs : Nat → ClassId) : List (ClassId × FieldType) := [((cs 0), .int), ((cs 1), .int), ((cs 2), .boolean)]
set_option maxHeartbeats 4000000 in
set_option maxRecDepth 100000 in
theorem k_X3_init (l : Launch) {D : va_G} (h0 sz : Nat) : Met l yX3_init wsX3_init ({ frames := 1, cells := 3, slots := 120, locals := 12 }) (va_Pc [.ref h0] (pt_cPre D (w0_X3 h0) sz)) (va_Qv (fun (_ : (Nat → Nat) × (Nat → ClassId)) => True) (fun u t => va_P D vwCl (w1_X3 h0 u.1 u.2) t.heap ∧ va_K D vwCl (t1_X3 u.2) t ∧ va_D (va_A (w0_X3 h0) sz) (w1_X3 h0 u.1 u.2)) (va_A (w0_X3 h0) sz)) 3 120 (va_A (w0_X3 h0) sz) := by
  refine Met.ofW (cc := cX3_init) (maxL := 1) (ret := none) (by decide) rfl ?_
  intro p e s m args below meth c s₁ B hml hv
  obtain ⟨rfl, hsz, hP, hK, hD0, hcn⟩ := hv
  have hx := B.exec
  have hb := B.bytes
  have hr := B.returns
  have hts := atoms_spec (ws := wsX3_init) B.pre
  have hown : s.vm.findClass RX3 = some m.cls := findClass_of_methodNamed B.named
  have hlk := B.notSynchronized
  have hin : meth.name = "<init>" := (name_of_methodNamed B.named B.method).1
  subst hsz
  have hD := hD0.self (sz := s.heap.size)
  generalize hAe : va_A (w0_X3 h0) s.heap.size = A at hD ⊢
  have hA : ∀ q : Nat, s.heap.size ≤ q → A q := fun q h => by rw [← hAe]; exact Or.inr h
  have hS : va_S A s.heap s.heap [] := va_S.rf
  have hP : va_P D vwCl [(h0, .inr (3, [.null, .null, .null]))] s.heap := hP
  have hD : va_D A [(h0, .inr (3, [.null, .null, .null]))] := hD
  have hiX3 : ∀ w ∈ wsX30, w ∈ wsX3_init := fun w h => List.mem_cons_of_mem _ (List.mem_append_right _ h)
  have ho1 : (Cond.methodLink RX3 3 objectInit).before _ s = true := hts _ (List.mem_of_getElem? (i := 1) rfl)
  have ho2 : (Cond.instanceMethod objectInit).before _ s = true := hts _ (List.mem_of_getElem? (i := 2) rfl)
  have ho3 : (Cond.code objectInit ⟨#[0xb1]⟩ 1 none).before _ s = true := hts _ (List.mem_of_getElem? (i := 3) rfl)
  have hac_int : (Cond.arrayClass .int).before _ s = true := hts _ (List.mem_of_getElem? (i := 4) rfl)
  have hf9 : (Cond.fieldLink RX3 9 "PackThreads$Plants" "steps" "[I").before _ s = true := hts _ (List.mem_of_getElem? (i := 5) rfl)
  have hf15 : (Cond.fieldLink RX3 15 "PackThreads$Plants" "kinds" "[I").before _ s = true := hts _ (List.mem_of_getElem? (i := 6) rfl)
  have hac_boolean : (Cond.arrayClass .boolean).before _ s = true := hts _ (List.mem_of_getElem? (i := 7) rfl)
  have hf18 : (Cond.fieldLink RX3 18 "PackThreads$Plants" "forTwice" "[Z").before _ s = true := hts _ (List.mem_of_getElem? (i := 8) rfl)
  have hl := lv_entry ([.ref h0]) (n := 1) (Nat.le_of_ble_eq_true rfl)
  rw [lg_entry_eq]
  generalize (lg_sl ([.ref h0]) ++ List.replicate (1 - (lg_sl ([.ref h0])).length) Slot.unset).toArray = ls at hl ⊢
  have hl : lv_has ls 1 [(0, .ref h0)] := hl
  refine lv_aload_n hx hb dX3_init_0 rfl (lv_at hl 0 rfl) ?_
  refine W.objInit hx hb hown ho1 ho2 ho3 rfl (by rw [hml]; exact hl.1) rfl dX3_init_1 (Nat.le_of_ble_eq_true rfl) (Nat.le_of_ble_eq_true rfl) ?_
  refine W.eq (g2 := F0 m 4 ls []) rfl ?_
  refine lv_aload_n hx hb dX3_init_4 rfl (lv_at hl 0 rfl) ?_
  refine lv_bipush (v := 40) hx hb dX3_init_5 (by decide) ?_
  refine va_newa (atype := .int) (ty := .int) (n := 40) (N' := 40) (a0 := (40, .inl (fun _ => 0))) hx hb hac_int rfl hK hP hD hS hA (pt_a0i 40) (by decide) (by decide) (pt_hbi (by omega)) (Nat.le_of_ble_eq_true rfl) (Nat.le_of_ble_eq_true rfl) dX3_init_7 (fun q5 c5c H hK hP hD hS => ?_)
  have hP : va_P D vwCl [(h0, .inr (3, [.null, .null, .null])), (q5, .inl (c5c, 40, .inl (fun _ => 0)))] H := hP
  have hD : va_D A [(h0, .inr (3, [.null, .null, .null])), (q5, .inl (c5c, 40, .inl (fun _ => 0)))] := hD
  have hK : va_K D vwCl [(c5c, .int)] s := hK
  refine va_putF (D := D) (ci := 3) (v := .ref q5) (ty := .array .int) (C := RX3) (T := TX3) (N := 3) hx hb hts hiX3 tyX3 tyX3_ok nmX3 hown hK hP hD hS 0 rfl rfl 0 (by decide) hf9 (fun _ h9 => h9) rfl hin rfl (by decide +kernel) rfl rfl (Nat.le_of_ble_eq_true rfl) dX3_init_9 (fun H locs hP hD hS => ?_)
  have hP : va_P D vwCl [(h0, .inr (3, [.ref q5, .null, .null])), (q5, .inl (c5c, 40, .inl (fun _ => 0)))] H := hP
  have hD : va_D A [(h0, .inr (3, [.ref q5, .null, .null])), (q5, .inl (c5c, 40, .inl (fun _ => 0)))] := hD
  refine lv_aload_n hx hb dX3_init_12 rfl (lv_at hl 0 rfl) ?_
  refine lv_bipush (v := 40) hx hb dX3_init_13 (by decide) ?_
  refine va_newa (atype := .int) (ty := .int) (n := 40) (N' := 40) (a0 := (40, .inl (fun _ => 0))) hx hb hac_int rfl hK hP hD hS hA (pt_a0i 40) (by decide) (by decide) (pt_hbi (by omega)) (Nat.le_of_ble_eq_true rfl) (Nat.le_of_ble_eq_true rfl) dX3_init_15 (fun q14 c14c H hK hP hD hS => ?_)
  have hP : va_P D vwCl [(h0, .inr (3, [.ref q5, .null, .null])), (q5, .inl (c5c, 40, .inl (fun _ => 0))), (q14, .inl (c14c, 40, .inl (fun _ => 0)))] H := hP
  have hD : va_D A [(h0, .inr (3, [.ref q5, .null, .null])), (q5, .inl (c5c, 40, .inl (fun _ => 0))), (q14, .inl (c14c, 40, .inl (fun _ => 0)))] := hD
  have hK : va_K D vwCl [(c5c, .int), (c14c, .int)] s := hK
  refine va_putF (D := D) (ci := 3) (v := .ref q14) (ty := .array .int) (C := RX3) (T := TX3) (N := 3) hx hb hts hiX3 tyX3 tyX3_ok nmX3 hown hK hP hD hS 0 rfl rfl 1 (by decide) hf15 (fun _ h9 => h9) rfl hin rfl (by decide +kernel) rfl rfl (Nat.le_of_ble_eq_true rfl) dX3_init_17 (fun H locs hP hD hS => ?_)
  have hP : va_P D vwCl [(h0, .inr (3, [.ref q5, .ref q14, .null])), (q5, .inl (c5c, 40, .inl (fun _ => 0))), (q14, .inl (c14c, 40, .inl (fun _ => 0)))] H := hP
  have hD : va_D A [(h0, .inr (3, [.ref q5, .ref q14, .null])), (q5, .inl (c5c, 40, .inl (fun _ => 0))), (q14, .inl (c14c, 40, .inl (fun _ => 0)))] := hD
  refine lv_aload_n hx hb dX3_init_20 rfl (lv_at hl 0 rfl) ?_
  refine lv_bipush (v := 40) hx hb dX3_init_21 (by decide) ?_
  refine va_newa (atype := .boolean) (ty := .boolean) (n := 40) (N' := 40) (a0 := (40, .inl (fun _ => 0))) hx hb hac_boolean rfl hK hP hD hS hA (pt_a0b 40) (by decide) (by decide) (pt_hbb (by omega)) (Nat.le_of_ble_eq_true rfl) (Nat.le_of_ble_eq_true rfl) dX3_init_23 (fun q23 c23c H hK hP hD hS => ?_)
  have hP : va_P D vwCl [(h0, .inr (3, [.ref q5, .ref q14, .null])), (q5, .inl (c5c, 40, .inl (fun _ => 0))), (q14, .inl (c14c, 40, .inl (fun _ => 0))), (q23, .inl (c23c, 40, .inl (fun _ => 0)))] H := hP
  have hD : va_D A [(h0, .inr (3, [.ref q5, .ref q14, .null])), (q5, .inl (c5c, 40, .inl (fun _ => 0))), (q14, .inl (c14c, 40, .inl (fun _ => 0))), (q23, .inl (c23c, 40, .inl (fun _ => 0)))] := hD
  have hK : va_K D vwCl [(c5c, .int), (c14c, .int), (c23c, .boolean)] s := hK
  refine va_putF (D := D) (ci := 3) (v := .ref q23) (ty := .array .boolean) (C := RX3) (T := TX3) (N := 3) hx hb hts hiX3 tyX3 tyX3_ok nmX3 hown hK hP hD hS 0 rfl rfl 2 (by decide) hf18 (fun _ h9 => h9) rfl hin rfl (by decide +kernel) rfl rfl (Nat.le_of_ble_eq_true rfl) dX3_init_25 (fun H locs hP hD hS => ?_)
  have hP : va_P D vwCl [(h0, .inr (3, [.ref q5, .ref q14, .ref q23])), (q5, .inl (c5c, 40, .inl (fun _ => 0))), (q14, .inl (c14c, 40, .inl (fun _ => 0))), (q23, .inl (c23c, 40, .inl (fun _ => 0)))] H := hP
  have hD : va_D A [(h0, .inr (3, [.ref q5, .ref q14, .ref q23])), (q5, .inl (c5c, 40, .inl (fun _ => 0))), (q14, .inl (c14c, 40, .inl (fun _ => 0))), (q23, .inl (c23c, 40, .inl (fun _ => 0)))] := hD
  have hP9 := hP.sub (ws' := w1_X3 h0 (fun j => [q5, q14, q23].getD j 0) (fun j => [c5c, c14c, c23c].getD j 0)) [0, 1, 2, 3] rfl
  have hD9 := hD.sub (ws' := w1_X3 h0 (fun j => [q5, q14, q23].getD j 0) (fun j => [c5c, c14c, c23c].getD j 0)) [0, 1, 2, 3] (by decide) rfl
  have hK9 := hK.sub (tys' := t1_X3 (fun j => [c5c, c14c, c23c].getD j 0)) [0, 1, 2] rfl
  refine W.widen (k := 3) (n := 120) (Nat.le_of_ble_eq_true rfl) (Nat.le_of_ble_eq_true rfl) ?_
  exact W.vret hx hb hr (fun t ht hW => ⟨⟨((fun j => [q5, q14, q23].getD j 0), (fun j => [c5c, c14c, c23c].getD j 0)), rfl, trivial, by rw [ht]; exact hP9, va_K.moved hW.alike hK9, hD9⟩, hS.F ht⟩) hS.2.2 dX3_init_28 hlk

def w0_X4 (h0 : Nat) : va_W := [(h0, .inr (4, [.null, .int 0, .int 0, .int 0]))]
def w1_X4 (h0 : Nat) (q : Nat → Nat) (cs : Nat → ClassId) : va_W := [(h0, .inr (4, [.ref (q 0), .int 0, .int 0, .int 0])), ((q 0), .inl ((cs 0), 40, .inl (fun _ => 0)))]
def t1_X4 (cs : Nat → ClassId) : List (ClassId × FieldType) := [((cs 0), .boolean)]
set_option maxHeartbeats 4000000 in
set_option maxRecDepth 100000 in
theorem k_X4_init (l : Launch) {D : va_G} (h0 sz : Nat) : Met l yX4_init wsX4_init ({ frames := 1, cells := 1, slots := 40, locals := 12 }) (va_Pc [.ref h0] (pt_cPre D (w0_X4 h0) sz)) (va_Qv (fun (_ : (Nat → Nat) × (Nat → ClassId)) => True) (fun u t => va_P D vwCl (w1_X4 h0 u.1 u.2) t.heap ∧ va_K D vwCl (t1_X4 u.2) t ∧ va_D (va_A (w0_X4 h0) sz) (w1_X4 h0 u.1 u.2)) (va_A (w0_X4 h0) sz)) 1 40 (va_A (w0_X4 h0) sz) := by
  refine Met.ofW (cc := cX4_init) (maxL := 1) (ret := none) (by decide) rfl ?_
  intro p e s m args below meth c s₁ B hml hv
  obtain ⟨rfl, hsz, hP, hK, hD0, hcn⟩ := hv
  have hx := B.exec
  have hb := B.bytes
  have hr := B.returns
  have hts := atoms_spec (ws := wsX4_init) B.pre
  have hown : s.vm.findClass RX4 = some m.cls := findClass_of_methodNamed B.named
  have hlk := B.notSynchronized
  have hin : meth.name = "<init>" := (name_of_methodNamed B.named B.method).1
  subst hsz
  have hD := hD0.self (sz := s.heap.size)
  generalize hAe : va_A (w0_X4 h0) s.heap.size = A at hD ⊢
  have hA : ∀ q : Nat, s.heap.size ≤ q → A q := fun q h => by rw [← hAe]; exact Or.inr h
  have hS : va_S A s.heap s.heap [] := va_S.rf
  have hP : va_P D vwCl [(h0, .inr (4, [.null, .int 0, .int 0, .int 0]))] s.heap := hP
  have hD : va_D A [(h0, .inr (4, [.null, .int 0, .int 0, .int 0]))] := hD
  have hiX4 : ∀ w ∈ wsX40, w ∈ wsX4_init := fun w h => List.mem_cons_of_mem _ (List.mem_append_right _ h)
  have ho1 : (Cond.methodLink RX4 3 objectInit).before _ s = true := hts _ (List.mem_of_getElem? (i := 1) rfl)
  have ho2 : (Cond.instanceMethod objectInit).before _ s = true := hts _ (List.mem_of_getElem? (i := 2) rfl)
  have ho3 : (Cond.code objectInit ⟨#[0xb1]⟩ 1 none).before _ s = true := hts _ (List.mem_of_getElem? (i := 3) rfl)
  have hac_boolean : (Cond.arrayClass .boolean).before _ s = true := hts _ (List.mem_of_getElem? (i := 4) rfl)
  have hf9 : (Cond.fieldLink RX4 9 "PackThreads$Row" "kept" "[Z").before _ s = true := hts _ (List.mem_of_getElem? (i := 5) rfl)
  have hl := lv_entry ([.ref h0]) (n := 1) (Nat.le_of_ble_eq_true rfl)
  rw [lg_entry_eq]
  generalize (lg_sl ([.ref h0]) ++ List.replicate (1 - (lg_sl ([.ref h0])).length) Slot.unset).toArray = ls at hl ⊢
  have hl : lv_has ls 1 [(0, .ref h0)] := hl
  refine lv_aload_n hx hb dX4_init_0 rfl (lv_at hl 0 rfl) ?_
  refine W.objInit hx hb hown ho1 ho2 ho3 rfl (by rw [hml]; exact hl.1) rfl dX4_init_1 (Nat.le_of_ble_eq_true rfl) (Nat.le_of_ble_eq_true rfl) ?_
  refine W.eq (g2 := F0 m 4 ls []) rfl ?_
  refine lv_aload_n hx hb dX4_init_4 rfl (lv_at hl 0 rfl) ?_
  refine lv_bipush (v := 40) hx hb dX4_init_5 (by decide) ?_
  refine va_newa (atype := .boolean) (ty := .boolean) (n := 40) (N' := 40) (a0 := (40, .inl (fun _ => 0))) hx hb hac_boolean rfl hK hP hD hS hA (pt_a0b 40) (by decide) (by decide) (pt_hbb (by omega)) (Nat.le_of_ble_eq_true rfl) (Nat.le_of_ble_eq_true rfl) dX4_init_7 (fun q5 c5c H hK hP hD hS => ?_)
  have hP : va_P D vwCl [(h0, .inr (4, [.null, .int 0, .int 0, .int 0])), (q5, .inl (c5c, 40, .inl (fun _ => 0)))] H := hP
  have hD : va_D A [(h0, .inr (4, [.null, .int 0, .int 0, .int 0])), (q5, .inl (c5c, 40, .inl (fun _ => 0)))] := hD
  have hK : va_K D vwCl [(c5c, .boolean)] s := hK
  refine va_putF (D := D) (ci := 4) (v := .ref q5) (ty := .array .boolean) (C := RX4) (T := TX4) (N := 4) hx hb hts hiX4 tyX4 tyX4_ok nmX4 hown hK hP hD hS 0 rfl rfl 0 (by decide) hf9 (fun _ h9 => h9) rfl hin rfl (by decide +kernel) rfl rfl (Nat.le_of_ble_eq_true rfl) dX4_init_9 (fun H locs hP hD hS => ?_)
  have hP : va_P D vwCl [(h0, .inr (4, [.ref q5, .int 0, .int 0, .int 0])), (q5, .inl (c5c, 40, .inl (fun _ => 0)))] H := hP
  have hD : va_D A [(h0, .inr (4, [.ref q5, .int 0, .int 0, .int 0])), (q5, .inl (c5c, 40, .inl (fun _ => 0)))] := hD
  have hP9 := hP.sub (ws' := w1_X4 h0 (fun j => [q5].getD j 0) (fun j => [c5c].getD j 0)) [0, 1] rfl
  have hD9 := hD.sub (ws' := w1_X4 h0 (fun j => [q5].getD j 0) (fun j => [c5c].getD j 0)) [0, 1] (by decide) rfl
  have hK9 := hK.sub (tys' := t1_X4 (fun j => [c5c].getD j 0)) [0] rfl
  refine W.widen (k := 1) (n := 40) (Nat.le_of_ble_eq_true rfl) (Nat.le_of_ble_eq_true rfl) ?_
  exact W.vret hx hb hr (fun t ht hW => ⟨⟨((fun j => [q5].getD j 0), (fun j => [c5c].getD j 0)), rfl, trivial, by rw [ht]; exact hP9, va_K.moved hW.alike hK9, hD9⟩, hS.F ht⟩) hS.2.2 dX4_init_12 hlk

def w0_X5 (h0 : Nat) : va_W := [(h0, .inr (5, [.int 0, .int 0, .int 0, .int 0]))]
def w1_X5 (h0 : Nat) (q : Nat → Nat) (cs : Nat → ClassId) : va_W := [(h0, .inr (5, [.int 8, .int 16, .int 64, .int 2]))]
def t1_X5 (cs : Nat → ClassId) : List (ClassId × FieldType) := []
set_option maxHeartbeats 4000000 in
set_option maxRecDepth 100000 in
theorem k_X5_init (l : Launch) {D : va_G} (h0 sz : Nat) : Met l yX5_init wsX5_init ({ frames := 1, cells := 0, slots := 0, locals := 12 }) (va_Pc [.ref h0] (pt_cPre D (w0_X5 h0) sz)) (va_Qv (fun (_ : (Nat → Nat) × (Nat → ClassId)) => True) (fun u t => va_P D vwCl (w1_X5 h0 u.1 u.2) t.heap ∧ va_K D vwCl (t1_X5 u.2) t ∧ va_D (va_A (w0_X5 h0) sz) (w1_X5 h0 u.1 u.2)) (va_A (w0_X5 h0) sz)) 0 0 (va_A (w0_X5 h0) sz) := by
  refine Met.ofW (cc := cX5_init) (maxL := 1) (ret := none) (by decide) rfl ?_
  intro p e s m args below meth c s₁ B hml hv
  obtain ⟨rfl, hsz, hP, hK, hD0, hcn⟩ := hv
  have hx := B.exec
  have hb := B.bytes
  have hr := B.returns
  have hts := atoms_spec (ws := wsX5_init) B.pre
  have hown : s.vm.findClass RX5 = some m.cls := findClass_of_methodNamed B.named
  have hlk := B.notSynchronized
  have hin : meth.name = "<init>" := (name_of_methodNamed B.named B.method).1
  subst hsz
  have hD := hD0.self (sz := s.heap.size)
  generalize hAe : va_A (w0_X5 h0) s.heap.size = A at hD ⊢
  have hA : ∀ q : Nat, s.heap.size ≤ q → A q := fun q h => by rw [← hAe]; exact Or.inr h
  have hS : va_S A s.heap s.heap [] := va_S.rf
  have hP : va_P D vwCl [(h0, .inr (5, [.int 0, .int 0, .int 0, .int 0]))] s.heap := hP
  have hD : va_D A [(h0, .inr (5, [.int 0, .int 0, .int 0, .int 0]))] := hD
  have hiX5 : ∀ w ∈ wsX50, w ∈ wsX5_init := fun w h => List.mem_cons_of_mem _ (List.mem_append_right _ h)
  have ho1 : (Cond.methodLink RX5 1 objectInit).before _ s = true := hts _ (List.mem_of_getElem? (i := 1) rfl)
  have ho2 : (Cond.instanceMethod objectInit).before _ s = true := hts _ (List.mem_of_getElem? (i := 2) rfl)
  have ho3 : (Cond.code objectInit ⟨#[0xb1]⟩ 1 none).before _ s = true := hts _ (List.mem_of_getElem? (i := 3) rfl)
  have hf7 : (Cond.fieldLink RX5 7 "PackThreads$Settings" "size" "I").before _ s = true := hts _ (List.mem_of_getElem? (i := 4) rfl)
  have hf13 : (Cond.fieldLink RX5 13 "PackThreads$Settings" "window" "I").before _ s = true := hts _ (List.mem_of_getElem? (i := 5) rfl)
  have hf16 : (Cond.fieldLink RX5 16 "PackThreads$Settings" "cells" "I").before _ s = true := hts _ (List.mem_of_getElem? (i := 6) rfl)
  have hf19 : (Cond.fieldLink RX5 19 "PackThreads$Settings" "rowLimit" "I").before _ s = true := hts _ (List.mem_of_getElem? (i := 7) rfl)
  have hl := lv_entry ([.ref h0]) (n := 1) (Nat.le_of_ble_eq_true rfl)
  rw [lg_entry_eq]
  generalize (lg_sl ([.ref h0]) ++ List.replicate (1 - (lg_sl ([.ref h0])).length) Slot.unset).toArray = ls at hl ⊢
  have hl : lv_has ls 1 [(0, .ref h0)] := hl
  refine lv_aload_n hx hb dX5_init_0 rfl (lv_at hl 0 rfl) ?_
  refine W.objInit hx hb hown ho1 ho2 ho3 rfl (by rw [hml]; exact hl.1) rfl dX5_init_1 (Nat.le_of_ble_eq_true rfl) (Nat.le_of_ble_eq_true rfl) ?_
  refine W.eq (g2 := F0 m 4 ls []) rfl ?_
  refine lv_aload_n hx hb dX5_init_4 rfl (lv_at hl 0 rfl) ?_
  refine lv_bipush (v := 8) hx hb dX5_init_5 (by decide) ?_
  refine va_put (D := D) (ci := 5) (v := .int 8) (ty := .int) (C := RX5) (T := TX5) (N := 4) hx hb hts hiX5 tyX5 tyX5_ok nmX5 hown hK hP hD hS 0 rfl rfl 0 (by decide) hf7 (fun _ h9 => h9) rfl (by decide +kernel) rfl rfl (Nat.le_of_ble_eq_true rfl) dX5_init_7 (fun H locs hP hD hS => ?_)
  have hP : va_P D vwCl [(h0, .inr (5, [.int 8, .int 0, .int 0, .int 0]))] H := hP
  have hD : va_D A [(h0, .inr (5, [.int 8, .int 0, .int 0, .int 0]))] := hD
  refine lv_aload_n hx hb dX5_init_10 rfl (lv_at hl 0 rfl) ?_
  refine lv_bipush (v := 16) hx hb dX5_init_11 (by decide) ?_
  refine va_put (D := D) (ci := 5) (v := .int 16) (ty := .int) (C := RX5) (T := TX5) (N := 4) hx hb hts hiX5 tyX5 tyX5_ok nmX5 hown hK hP hD hS 0 rfl rfl 1 (by decide) hf13 (fun _ h9 => h9) rfl (by decide +kernel) rfl rfl (Nat.le_of_ble_eq_true rfl) dX5_init_13 (fun H locs hP hD hS => ?_)
  have hP : va_P D vwCl [(h0, .inr (5, [.int 8, .int 16, .int 0, .int 0]))] H := hP
  have hD : va_D A [(h0, .inr (5, [.int 8, .int 16, .int 0, .int 0]))] := hD
  refine lv_aload_n hx hb dX5_init_16 rfl (lv_at hl 0 rfl) ?_
  refine lv_bipush (v := 64) hx hb dX5_init_17 (by decide) ?_
  refine va_put (D := D) (ci := 5) (v := .int 64) (ty := .int) (C := RX5) (T := TX5) (N := 4) hx hb hts hiX5 tyX5 tyX5_ok nmX5 hown hK hP hD hS 0 rfl rfl 2 (by decide) hf16 (fun _ h9 => h9) rfl (by decide +kernel) rfl rfl (Nat.le_of_ble_eq_true rfl) dX5_init_19 (fun H locs hP hD hS => ?_)
  have hP : va_P D vwCl [(h0, .inr (5, [.int 8, .int 16, .int 64, .int 0]))] H := hP
  have hD : va_D A [(h0, .inr (5, [.int 8, .int 16, .int 64, .int 0]))] := hD
  refine lv_aload_n hx hb dX5_init_22 rfl (lv_at hl 0 rfl) ?_
  refine lv_iconst (v := 2) hx hb dX5_init_23 (by decide) ?_
  refine va_put (D := D) (ci := 5) (v := .int 2) (ty := .int) (C := RX5) (T := TX5) (N := 4) hx hb hts hiX5 tyX5 tyX5_ok nmX5 hown hK hP hD hS 0 rfl rfl 3 (by decide) hf19 (fun _ h9 => h9) rfl (by decide +kernel) rfl rfl (Nat.le_of_ble_eq_true rfl) dX5_init_24 (fun H locs hP hD hS => ?_)
  have hP : va_P D vwCl [(h0, .inr (5, [.int 8, .int 16, .int 64, .int 2]))] H := hP
  have hD : va_D A [(h0, .inr (5, [.int 8, .int 16, .int 64, .int 2]))] := hD
  have hP9 := hP.sub (ws' := w1_X5 h0 (fun _ => 0) (fun _ => 0)) [0] rfl
  have hD9 := hD.sub (ws' := w1_X5 h0 (fun _ => 0) (fun _ => 0)) [0] (by decide) rfl
  have hK9 := hK.sub (tys' := t1_X5 (fun _ => 0)) [] rfl
  refine W.widen (k := 0) (n := 0) (Nat.le_of_ble_eq_true rfl) (Nat.le_of_ble_eq_true rfl) ?_
  exact W.vret hx hb hr (fun t ht hW => ⟨⟨((fun _ => 0), (fun _ => 0)), rfl, trivial, by rw [ht]; exact hP9, va_K.moved hW.alike hK9, hD9⟩, hS.F ht⟩) hS.2.2 dX5_init_27 hlk

def w0_X7 (h0 : Nat) : va_W := [(h0, .inr (7, [.null, .int 0]))]
def w1_X7 (h0 : Nat) (q : Nat → Nat) (cs : Nat → ClassId) : va_W := [(h0, .inr (7, [.ref (q 0), .int 0])), ((q 0), .inl ((cs 0), 160, .inl (fun _ => 0)))]
def t1_X7 (cs : Nat → ClassId) : List (ClassId × FieldType) := [((cs 0), .int)]
set_option maxHeartbeats 4000000 in
set_option maxRecDepth 100000 in
theorem k_X7_init (l : Launch) {D : va_G} (h0 sz : Nat) : Met l yX7_init wsX7_init ({ frames := 1, cells := 1, slots := 160, locals := 12 }) (va_Pc [.ref h0] (pt_cPre D (w0_X7 h0) sz)) (va_Qv (fun (_ : (Nat → Nat) × (Nat → ClassId)) => True) (fun u t => va_P D vwCl (w1_X7 h0 u.1 u.2) t.heap ∧ va_K D vwCl (t1_X7 u.2) t ∧ va_D (va_A (w0_X7 h0) sz) (w1_X7 h0 u.1 u.2)) (va_A (w0_X7 h0) sz)) 1 160 (va_A (w0_X7 h0) sz) := by
  refine Met.ofW (cc := cX7_init) (maxL := 1) (ret := none) (by decide) rfl ?_
  intro p e s m args below meth c s₁ B hml hv
  obtain ⟨rfl, hsz, hP, hK, hD0, hcn⟩ := hv
  have hx := B.exec
  have hb := B.bytes
  have hr := B.returns
  have hts := atoms_spec (ws := wsX7_init) B.pre
  have hown : s.vm.findClass RX7 = some m.cls := findClass_of_methodNamed B.named
  have hlk := B.notSynchronized
  have hin : meth.name = "<init>" := (name_of_methodNamed B.named B.method).1
  subst hsz
  have hD := hD0.self (sz := s.heap.size)
  generalize hAe : va_A (w0_X7 h0) s.heap.size = A at hD ⊢
  have hA : ∀ q : Nat, s.heap.size ≤ q → A q := fun q h => by rw [← hAe]; exact Or.inr h
  have hS : va_S A s.heap s.heap [] := va_S.rf
  have hP : va_P D vwCl [(h0, .inr (7, [.null, .int 0]))] s.heap := hP
  have hD : va_D A [(h0, .inr (7, [.null, .int 0]))] := hD
  have hiX7 : ∀ w ∈ wsX70, w ∈ wsX7_init := fun w h => List.mem_cons_of_mem _ (List.mem_append_right _ h)
  have ho1 : (Cond.methodLink RX7 3 objectInit).before _ s = true := hts _ (List.mem_of_getElem? (i := 1) rfl)
  have ho2 : (Cond.instanceMethod objectInit).before _ s = true := hts _ (List.mem_of_getElem? (i := 2) rfl)
  have ho3 : (Cond.code objectInit ⟨#[0xb1]⟩ 1 none).before _ s = true := hts _ (List.mem_of_getElem? (i := 3) rfl)
  have hac_int : (Cond.arrayClass .int).before _ s = true := hts _ (List.mem_of_getElem? (i := 4) rfl)
  have hf9 : (Cond.fieldLink RX7 9 "PackThreads$Text" "bytes" "[I").before _ s = true := hts _ (List.mem_of_getElem? (i := 5) rfl)
  have hl := lv_entry ([.ref h0]) (n := 1) (Nat.le_of_ble_eq_true rfl)
  rw [lg_entry_eq]
  generalize (lg_sl ([.ref h0]) ++ List.replicate (1 - (lg_sl ([.ref h0])).length) Slot.unset).toArray = ls at hl ⊢
  have hl : lv_has ls 1 [(0, .ref h0)] := hl
  refine lv_aload_n hx hb dX7_init_0 rfl (lv_at hl 0 rfl) ?_
  refine W.objInit hx hb hown ho1 ho2 ho3 rfl (by rw [hml]; exact hl.1) rfl dX7_init_1 (Nat.le_of_ble_eq_true rfl) (Nat.le_of_ble_eq_true rfl) ?_
  refine W.eq (g2 := F0 m 4 ls []) rfl ?_
  refine lv_aload_n hx hb dX7_init_4 rfl (lv_at hl 0 rfl) ?_
  refine lv_sipush (v := 160) hx hb dX7_init_5 (by decide) ?_
  refine va_newa (atype := .int) (ty := .int) (n := 160) (N' := 160) (a0 := (160, .inl (fun _ => 0))) hx hb hac_int rfl hK hP hD hS hA (pt_a0i 160) (by decide) (by decide) (pt_hbi (by omega)) (Nat.le_of_ble_eq_true rfl) (Nat.le_of_ble_eq_true rfl) dX7_init_8 (fun q5 c5c H hK hP hD hS => ?_)
  have hP : va_P D vwCl [(h0, .inr (7, [.null, .int 0])), (q5, .inl (c5c, 160, .inl (fun _ => 0)))] H := hP
  have hD : va_D A [(h0, .inr (7, [.null, .int 0])), (q5, .inl (c5c, 160, .inl (fun _ => 0)))] := hD
  have hK : va_K D vwCl [(c5c, .int)] s := hK
  refine va_putF (D := D) (ci := 7) (v := .ref q5) (ty := .array .int) (C := RX7) (T := TX7) (N := 2) hx hb hts hiX7 tyX7 tyX7_ok nmX7 hown hK hP hD hS 0 rfl rfl 0 (by decide) hf9 (fun _ h9 => h9) rfl hin rfl (by decide +kernel) rfl rfl (Nat.le_of_ble_eq_true rfl) dX7_init_10 (fun H locs hP hD hS => ?_)
  have hP : va_P D vwCl [(h0, .inr (7, [.ref q5, .int 0])), (q5, .inl (c5c, 160, .inl (fun _ => 0)))] H := hP
  have hD : va_D A [(h0, .inr (7, [.ref q5, .int 0])), (q5, .inl (c5c, 160, .inl (fun _ => 0)))] := hD
  have hP9 := hP.sub (ws' := w1_X7 h0 (fun j => [q5].getD j 0) (fun j => [c5c].getD j 0)) [0, 1] rfl
  have hD9 := hD.sub (ws' := w1_X7 h0 (fun j => [q5].getD j 0) (fun j => [c5c].getD j 0)) [0, 1] (by decide) rfl
  have hK9 := hK.sub (tys' := t1_X7 (fun j => [c5c].getD j 0)) [0] rfl
  refine W.widen (k := 1) (n := 160) (Nat.le_of_ble_eq_true rfl) (Nat.le_of_ble_eq_true rfl) ?_
  exact W.vret hx hb hr (fun t ht hW => ⟨⟨((fun j => [q5].getD j 0), (fun j => [c5c].getD j 0)), rfl, trivial, by rw [ht]; exact hP9, va_K.moved hW.alike hK9, hD9⟩, hS.F ht⟩) hS.2.2 dX7_init_13 hlk

def w0_X8 (h0 : Nat) : va_W := [(h0, .inr (8, [.int 0, .int 0, .int 0, .int 0, .int 0, .int 0, .int 0, .int 0]))]
def w1_X8 (h0 : Nat) (a1 : Int32) (q : Nat → Nat) (cs : Nat → ClassId) : va_W := [(h0, .inr (8, [.int a1, .int 0, .int 0, .int 0, .int 0, .int 0, .int 0, .int 0]))]
def t1_X8 (cs : Nat → ClassId) : List (ClassId × FieldType) := []
set_option maxHeartbeats 4000000 in
set_option maxRecDepth 100000 in
theorem k_X8_init (l : Launch) {D : va_G} (h0 sz : Nat) (a1 : Int32) : Met l yX8_init wsX8_init ({ frames := 1, cells := 0, slots := 0, locals := 12 }) (va_Pc [.ref h0, .int a1] (pt_cPre D (w0_X8 h0) sz)) (va_Qv (fun (_ : (Nat → Nat) × (Nat → ClassId)) => True) (fun u t => va_P D vwCl (w1_X8 h0 a1 u.1 u.2) t.heap ∧ va_K D vwCl (t1_X8 u.2) t ∧ va_D (va_A (w0_X8 h0) sz) (w1_X8 h0 a1 u.1 u.2)) (va_A (w0_X8 h0) sz)) 0 0 (va_A (w0_X8 h0) sz) := by
  refine Met.ofW (cc := cX8_init) (maxL := 2) (ret := none) (by decide) rfl ?_
  intro p e s m args below meth c s₁ B hml hv
  obtain ⟨rfl, hsz, hP, hK, hD0, hcn⟩ := hv
  have hx := B.exec
  have hb := B.bytes
  have hr := B.returns
  have hts := atoms_spec (ws := wsX8_init) B.pre
  have hown : s.vm.findClass RX8 = some m.cls := findClass_of_methodNamed B.named
  have hlk := B.notSynchronized
  have hin : meth.name = "<init>" := (name_of_methodNamed B.named B.method).1
  subst hsz
  have hD := hD0.self (sz := s.heap.size)
  generalize hAe : va_A (w0_X8 h0) s.heap.size = A at hD ⊢
  have hA : ∀ q : Nat, s.heap.size ≤ q → A q := fun q h => by rw [← hAe]; exact Or.inr h
  have hS : va_S A s.heap s.heap [] := va_S.rf
  have hP : va_P D vwCl [(h0, .inr (8, [.int 0, .int 0, .int 0, .int 0, .int 0, .int 0, .int 0, .int 0]))] s.heap := hP
  have hD : va_D A [(h0, .inr (8, [.int 0, .int 0, .int 0, .int 0, .int 0, .int 0, .int 0, .int 0]))] := hD
  have hiX8 : ∀ w ∈ wsX80, w ∈ wsX8_init := fun w h => List.mem_cons_of_mem _ (List.mem_append_right _ h)
  have ho1 : (Cond.methodLink RX8 3 objectInit).before _ s = true := hts _ (List.mem_of_getElem? (i := 1) rfl)
  have ho2 : (Cond.instanceMethod objectInit).before _ s = true := hts _ (List.mem_of_getElem? (i := 2) rfl)
  have ho3 : (Cond.code objectInit ⟨#[0xb1]⟩ 1 none).before _ s = true := hts _ (List.mem_of_getElem? (i := 3) rfl)
  have hf9 : (Cond.fieldLink RX8 9 "PackThreads$Worker" "number" "I").before _ s = true := hts _ (List.mem_of_getElem? (i := 4) rfl)
  have hl := lv_entry ([.ref h0, .int a1]) (n := 2) (Nat.le_of_ble_eq_true rfl)
  rw [lg_entry_eq]
  generalize (lg_sl ([.ref h0, .int a1]) ++ List.replicate (2 - (lg_sl ([.ref h0, .int a1])).length) Slot.unset).toArray = ls at hl ⊢
  have hl : lv_has ls 2 [(0, .ref h0), (1, .int a1)] := hl
  refine lv_aload_n hx hb dX8_init_0 rfl (lv_at hl 0 rfl) ?_
  refine W.objInit hx hb hown ho1 ho2 ho3 rfl (by rw [hml]; exact hl.1) rfl dX8_init_1 (Nat.le_of_ble_eq_true rfl) (Nat.le_of_ble_eq_true rfl) ?_
  refine W.eq (g2 := F0 m 4 ls []) rfl ?_
  refine lv_aload_n hx hb dX8_init_4 rfl (lv_at hl 0 rfl) ?_
  refine lv_iload_n hx hb dX8_init_5 rfl (lv_at hl 1 rfl) ?_
  refine va_putF (D := D) (ci := 8) (v := .int a1) (ty := .int) (C := RX8) (T := TX8) (N := 8) hx hb hts hiX8 tyX8 tyX8_ok nmX8 hown hK hP hD hS 0 rfl rfl 0 (by decide) hf9 (fun _ h9 => h9) rfl hin rfl (by decide +kernel) rfl rfl (Nat.le_of_ble_eq_true rfl) dX8_init_6 (fun H locs hP hD hS => ?_)
  have hP : va_P D vwCl [(h0, .inr (8, [.int a1, .int 0, .int 0, .int 0, .int 0, .int 0, .int 0, .int 0]))] H := hP
  have hD : va_D A [(h0, .inr (8, [.int a1, .int 0, .int 0, .int 0, .int 0, .int 0, .int 0, .int 0]))] := hD
  have hP9 := hP.sub (ws' := w1_X8 h0 a1 (fun _ => 0) (fun _ => 0)) [0] rfl
  have hD9 := hD.sub (ws' := w1_X8 h0 a1 (fun _ => 0) (fun _ => 0)) [0] (by decide) rfl
  have hK9 := hK.sub (tys' := t1_X8 (fun _ => 0)) [] rfl
  refine W.widen (k := 0) (n := 0) (Nat.le_of_ble_eq_true rfl) (Nat.le_of_ble_eq_true rfl) ?_
  exact W.vret hx hb hr (fun t ht hW => ⟨⟨((fun _ => 0), (fun _ => 0)), rfl, trivial, by rw [ht]; exact hP9, va_K.moved hW.alike hK9, hD9⟩, hS.F ht⟩) hS.2.2 dX8_init_9 hlk
