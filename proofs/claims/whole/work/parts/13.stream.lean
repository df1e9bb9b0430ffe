def lp_X6_start_8 (k : pt_St → Int32 → Option pt_St) (a1 : Int32) (a2 : Int32) (a3 : Int32) : Nat → pt_St → Int32 → Option pt_St
  | 0, _, _ => none
  | n + 1, σ, x4 =>
    if (6 : Int32) ≤ x4 then
    k σ x4
    else
    if pt_in x4 6 then
    pt_b1 (f_X8_renew σ x4) fun σ9003 =>
    lp_X6_start_8 k a1 a2 a3 n σ9003 (x4 + (1 : Int32))
    else none
def kx_X6_start_8 (a1 : Int32) (a2 : Int32) (a3 : Int32) (σ : pt_St) (x4 : Int32) : Option pt_St :=
  pt_b1 (f_X1_fill σ a2) fun σ9501 =>
  pt_b1 (f_X4_renew σ9501 a3) fun σ9502 =>
  pt_b1 (f_X0_renew σ9502) fun σ9503 =>
  pt_do (pt_put σ9503 5 7 (-1 : Int32)) fun σ9504 =>
  pt_do (pt_put σ9504 5 8 (0 : Int32)) fun σ9505 =>
  pt_do (pt_put σ9505 5 9 (-1 : Int32)) fun σ9506 =>
  pt_do (pt_put σ9506 5 10 (0 : Int32)) fun σ9507 =>
  pt_do (pt_put σ9507 5 11 (0 : Int32)) fun σ9508 =>
  pt_do (pt_put σ9508 5 12 (0 : Int32)) fun σ9509 =>
  some σ9509
def f_X6_start (σ : pt_St) (a1 : Int32) (a2 : Int32) (a3 : Int32) : Option pt_St :=
  pt_do (pt_put σ 5 6 a1) fun σ1 =>
  lp_X6_start_8 (kx_X6_start_8 a1 a2 a3) a1 a2 a3 pt_F σ1 (0 : Int32)
set_option maxHeartbeats 4000000 in
set_option maxRecDepth 100000 in
theorem m_X6_start (l : Launch) {D : va_G} {A : Nat → Prop} {ca : Nat → ClassId} {ad : Nat → Nat} {z : Nat × Nat} (hDa : ∀ σ, va_D A (wC ca ad σ)) {σ σ' : pt_St} {a1 : Int32} {a2 : Int32} {a3 : Int32} (h : f_X6_start σ a1 a2 a3 = some σ') : Met l yX6_start wsX6_start { frames := 2, cells := 0, slots := 0, locals := 40 } (va_Pc [.ref (ad 5), .int a1, .int a2, .int a3] (pt_Pre D (tysC ca) z A (wC ca ad σ))) (pt_Q none D (wC ca ad σ') A) 0 0 A := by
  refine Met.ofW (cc := cX6_start) (maxL := 5) (ret := none) (by decide) rfl ?_
  intro p e s m args below meth c s₁ B hml hv
  obtain ⟨rfl, hP, hK, hZ⟩ := hv
  have S : CallFix p m c cX6_start 5 s ([.ref (ad 5), .int a1, .int a2, .int a3] : List Value).toArray wsX6_start RX6 := ⟨B.exec, B.bytes, hml, findClass_of_methodNamed B.named, atoms_spec (ws := wsX6_start) B.pre⟩
  have hx := S.1
  have hb := S.2.1
  have hr := B.returns
  have hlk := B.notSynchronized
  clear B
  have hiX6 : ∀ w ∈ wsX60, w ∈ wsX6_start := fun w h => List.mem_cons_of_mem _ (List.mem_append_left _ (List.mem_append_left _ (List.mem_append_left _ (List.mem_append_left _ (List.mem_append_right _ h)))))
  have hiX8 : ∀ w ∈ wsX80, w ∈ wsX6_start := fun w h => List.mem_cons_of_mem _ (List.mem_append_left _ (List.mem_append_left _ (List.mem_append_left _ (List.mem_append_right _ h))))
  have hiX1 : ∀ w ∈ wsX10, w ∈ wsX6_start := fun w h => List.mem_cons_of_mem _ (List.mem_append_left _ (List.mem_append_left _ (List.mem_append_right _ h)))
  have hiX4 : ∀ w ∈ wsX40, w ∈ wsX6_start := fun w h => List.mem_cons_of_mem _ (List.mem_append_left _ (List.mem_append_right _ h))
  have hiX0 : ∀ w ∈ wsX00, w ∈ wsX6_start := fun w h => List.mem_cons_of_mem _ (List.mem_append_right _ h)
  have hf49 : (Cond.fieldLink RX6 49 "PackThreads$Stream" "threads" "I").before _ s = true := S.2.2.2.2 _ (List.mem_of_getElem? (i := 1) rfl)
  have hf11 : (Cond.fieldLink RX6 11 "PackThreads$Stream" "workers" "[LPackThreads$Worker;").before _ s = true := S.2.2.2.2 _ (List.mem_of_getElem? (i := 2) rfl)
  have hf20 : (Cond.fieldLink RX6 20 "PackThreads$Stream" "memory" "LPackThreads$Memory;").before _ s = true := S.2.2.2.2 _ (List.mem_of_getElem? (i := 3) rfl)
  have hf27 : (Cond.fieldLink RX6 27 "PackThreads$Stream" "row" "LPackThreads$Row;").before _ s = true := S.2.2.2.2 _ (List.mem_of_getElem? (i := 4) rfl)
  have hf34 : (Cond.fieldLink RX6 34 "PackThreads$Stream" "failed" "LPackThreads$Failed;").before _ s = true := S.2.2.2.2 _ (List.mem_of_getElem? (i := 5) rfl)
  have hf62 : (Cond.fieldLink RX6 62 "PackThreads$Stream" "latest" "I").before _ s = true := S.2.2.2.2 _ (List.mem_of_getElem? (i := 6) rfl)
  have hf65 : (Cond.fieldLink RX6 65 "PackThreads$Stream" "nextBlock" "I").before _ s = true := S.2.2.2.2 _ (List.mem_of_getElem? (i := 7) rfl)
  have hf68 : (Cond.fieldLink RX6 68 "PackThreads$Stream" "stoppedAt" "I").before _ s = true := S.2.2.2.2 _ (List.mem_of_getElem? (i := 8) rfl)
  have hf71 : (Cond.fieldLink RX6 71 "PackThreads$Stream" "stoppedKind" "I").before _ s = true := S.2.2.2.2 _ (List.mem_of_getElem? (i := 9) rfl)
  have hf74 : (Cond.fieldLink RX6 74 "PackThreads$Stream" "failures" "I").before _ s = true := S.2.2.2.2 _ (List.mem_of_getElem? (i := 10) rfl)
  have hf77 : (Cond.fieldLink RX6 77 "PackThreads$Stream" "turnsDone" "I").before _ s = true := S.2.2.2.2 _ (List.mem_of_getElem? (i := 11) rfl)
  have hS : va_S A s.heap s.heap [] := va_S.rf
  have hl := lv_entry ([.ref (ad 5), .int a1, .int a2, .int a3]) (n := 5) (Nat.le_of_ble_eq_true rfl)
  rw [lg_entry_eq]
  generalize (lg_sl ([.ref (ad 5), .int a1, .int a2, .int a3]) ++ List.replicate (5 - (lg_sl ([.ref (ad 5), .int a1, .int a2, .int a3])).length) Slot.unset).toArray = ls at hl ⊢
  have hl : lv_has ls 5 [(0, .ref (ad 5)), (1, .int a1), (2, .int a2), (3, .int a3)] := hl
  unfold f_X6_start at h
  refine lv_aload_n hx hb dX6_start_0 rfl (lv_at hl 0 rfl) ?_
  refine lv_iload_n hx hb dX6_start_1 rfl (lv_at hl 1 rfl) ?_
  replace h := pt_dos h; obtain ⟨σ1, e1, h⟩ := h
  refine pf_X6_6 S hiX6 hK hP hDa hS hf49 e1 dX6_start_2 (fun H locs hP hS => ?_)
  refine lv_iconst (v := 0) hx hb dX6_start_5 (by decide) ?_
  refine lv_istore (lv' := [(4, .int (0 : Int32)), (0, .ref (ad 5)), (1, .int a1), (2, .int a2), (3, .int a3)]) hx hb dX6_start_6 hl (by decide) rfl (fun ls hl => ?_)
  have X8 : ∀ (σ : pt_St) (x4 : Int32), kx_X6_start_8 a1 a2 a3 σ x4 = some σ' → ∀ (H : Heap) (locs : List Loc) (ls : Array Slot), va_P D vwCl (wC ca ad σ) H → va_S A s.heap H locs → lv_has ls 5 [(0, .ref (ad 5)), (1, .int a1), (2, .int a2), (3, .int a3), (4, .int x4)] → W p l e (headSpec wsX6_start { frames := 2, cells := 0, slots := 0, locals := 40 }).room s m ([.ref (ad 5), .int a1, .int a2, .int a3] : List Value).toArray below meth c H locs 0 0 (MQ below (pt_Q none D (wC ca ad σ') A) ([.ref (ad 5), .int a1, .int a2, .int a3] : List Value).toArray s 0 0 A) (F0 m 34 ls []) := by
    intro σ x4 h H locs ls hP hS hl
    unfold kx_X6_start_8 at h
    refine lv_aload_n hx hb dX6_start_34 rfl (lv_at hl 0 rfl) ?_
    refine gf_X6_3 S hiX6 hK hP hf20 dX6_start_35 ?_
    refine lv_iload_n hx hb dX6_start_38 rfl (lv_at hl 2 rfl) ?_
    replace h := pt_b1s h; obtain ⟨σ9501, e9501, h⟩ := h
    refine pt_cVv (As := [.int a2]) (rest := []) S (m_X1_fill l hDa e9501) (cwV 1 S.2.2.2.2 gX6_start_X1_fill rfl rfl rfl (by decide +kernel) ⟨Nat.le_of_ble_eq_true rfl, Nat.le_of_ble_eq_true rfl⟩) hK hP hS hZ 6 1 rfl rfl rfl hl.1 rfl (Nat.le_of_ble_eq_true rfl) dX6_start_39 ⟨Nat.zero_le _, Nat.zero_le _⟩ (fun H locs hP hS => ?_)
    refine lv_aload_n hx hb dX6_start_42 rfl (lv_at hl 0 rfl) ?_
    refine gf_X6_4 S hiX6 hK hP hf27 dX6_start_43 ?_
    refine lv_iload_n hx hb dX6_start_46 rfl (lv_at hl 3 rfl) ?_
    replace h := pt_b1s h; obtain ⟨σ9502, e9502, h⟩ := h
    refine pt_cVv (As := [.int a3]) (rest := []) S (m_X4_renew l hDa e9502) (cwV 1 S.2.2.2.2 gX6_start_X4_renew rfl rfl rfl (by decide +kernel) ⟨Nat.le_of_ble_eq_true rfl, Nat.le_of_ble_eq_true rfl⟩) hK hP hS hZ 7 4 rfl rfl rfl hl.1 rfl (Nat.le_of_ble_eq_true rfl) dX6_start_47 ⟨Nat.zero_le _, Nat.zero_le _⟩ (fun H locs hP hS => ?_)
    refine lv_aload_n hx hb dX6_start_50 rfl (lv_at hl 0 rfl) ?_
    refine gf_X6_5 S hiX6 hK hP hf34 dX6_start_51 ?_
    replace h := pt_b1s h; obtain ⟨σ9503, e9503, h⟩ := h
    refine pt_cVv (As := []) (rest := []) S (m_X0_renew l hDa e9503) (cwV 0 S.2.2.2.2 gX6_start_X0_renew rfl rfl rfl (by decide +kernel) ⟨Nat.le_of_ble_eq_true rfl, Nat.le_of_ble_eq_true rfl⟩) hK hP hS hZ 8 0 rfl rfl rfl hl.1 rfl (Nat.le_of_ble_eq_true rfl) dX6_start_54 ⟨Nat.zero_le _, Nat.zero_le _⟩ (fun H locs hP hS => ?_)
    refine lv_aload_n hx hb dX6_start_57 rfl (lv_at hl 0 rfl) ?_
    refine lv_iconst (v := -1) hx hb dX6_start_58 (by decide) ?_
    replace h := pt_dos h; obtain ⟨σ9504, e9504, h⟩ := h
    refine pf_X6_7 S hiX6 hK hP hDa hS hf62 e9504 dX6_start_59 (fun H locs hP hS => ?_)
    refine lv_aload_n hx hb dX6_start_62 rfl (lv_at hl 0 rfl) ?_
    refine lv_iconst (v := 0) hx hb dX6_start_63 (by decide) ?_
    replace h := pt_dos h; obtain ⟨σ9505, e9505, h⟩ := h
    refine pf_X6_8 S hiX6 hK hP hDa hS hf65 e9505 dX6_start_64 (fun H locs hP hS => ?_)
    refine lv_aload_n hx hb dX6_start_67 rfl (lv_at hl 0 rfl) ?_
    refine lv_iconst (v := -1) hx hb dX6_start_68 (by decide) ?_
    replace h := pt_dos h; obtain ⟨σ9506, e9506, h⟩ := h
    refine pf_X6_9 S hiX6 hK hP hDa hS hf68 e9506 dX6_start_69 (fun H locs hP hS => ?_)
    refine lv_aload_n hx hb dX6_start_72 rfl (lv_at hl 0 rfl) ?_
    refine lv_iconst (v := 0) hx hb dX6_start_73 (by decide) ?_
    replace h := pt_dos h; obtain ⟨σ9507, e9507, h⟩ := h
    refine pf_X6_10 S hiX6 hK hP hDa hS hf71 e9507 dX6_start_74 (fun H locs hP hS => ?_)
    refine lv_aload_n hx hb dX6_start_77 rfl (lv_at hl 0 rfl) ?_
    refine lv_iconst (v := 0) hx hb dX6_start_78 (by decide) ?_
    replace h := pt_dos h; obtain ⟨σ9508, e9508, h⟩ := h
    refine pf_X6_11 S hiX6 hK hP hDa hS hf74 e9508 dX6_start_79 (fun H locs hP hS => ?_)
    refine lv_aload_n hx hb dX6_start_82 rfl (lv_at hl 0 rfl) ?_
    refine lv_iconst (v := 0) hx hb dX6_start_83 (by decide) ?_
    replace h := pt_dos h; obtain ⟨σ9509, e9509, h⟩ := h
    refine pf_X6_12 S hiX6 hK hP hDa hS hf77 e9509 dX6_start_84 (fun H locs hP hS => ?_)
    exact pt_vret S hr hlk hP hS (congrArg (wC ca ad) (pt_so h)) dX6_start_87
  have L8 : ∀ (n : Nat) (σ : pt_St) (x4 : Int32),  lp_X6_start_8 (kx_X6_start_8 a1 a2 a3) a1 a2 a3 n σ x4 = some σ' → ∀ (H : Heap) (locs : List Loc) (ls : Array Slot), va_P D vwCl (wC ca ad σ) H → va_S A s.heap H locs → lv_has ls 5 [(0, .ref (ad 5)), (1, .int a1), (2, .int a2), (3, .int a3), (4, .int x4)] → W p l e (headSpec wsX6_start { frames := 2, cells := 0, slots := 0, locals := 40 }).room s m ([.ref (ad 5), .int a1, .int a2, .int a3] : List Value).toArray below meth c H locs 0 0 (MQ below (pt_Q none D (wC ca ad σ') A) ([.ref (ad 5), .int a1, .int a2, .int a3] : List Value).toArray s 0 0 A) (F0 m 8 ls []) := by
    intro n
    induction n with
    | zero => intro σ x4 h; cases h
    | succ n ih0 =>
      intro σ x4 h H locs ls hP hS hl
      rw [lp_X6_start_8] at h
      refine lv_iload hx hb dX6_start_8 (lv_at hl 4 rfl) ?_
      refine lv_aload_n hx hb dX6_start_10 rfl (lv_at hl 0 rfl) ?_
      refine gf_X6_2 S hiX6 hK hP hf11 dX6_start_11 ?_
      refine ln_C_22 S hK hP dX6_start_14 ?_
      refine lv_icmp_ge (tgt := 34) hx hb dX6_start_15 (by decide) (fun c9001 => ?_) (fun c9001 => ?_)
      · replace h := pt_ip c9001 h
        exact X8 _ _ h _ _ _ hP hS (lv_sub hl [0, 1, 2, 3, 4] rfl)
      · replace h := pt_iN c9001 h
        refine lv_aload_n hx hb dX6_start_18 rfl (lv_at hl 0 rfl) ?_
        refine gf_X6_2 S hiX6 hK hP hf11 dX6_start_19 ?_
        refine lv_iload hx hb dX6_start_22 (lv_at hl 4 rfl) ?_
        replace h := pt_gd h; obtain ⟨g9002, h⟩ := h
        refine ld_C_22 S hK hP g9002 dX6_start_24 ?_
        replace h := pt_b1s h; obtain ⟨σ9003, e9003, h⟩ := h
        refine pt_cVv (As := []) (rest := []) S (m_X8_renew l hDa g9002 e9003) (cwV 0 S.2.2.2.2 gX6_start_X8_renew rfl rfl rfl (by decide +kernel) ⟨Nat.le_of_ble_eq_true rfl, Nat.le_of_ble_eq_true rfl⟩) hK hP hS hZ (9 + x4.toNatClampNeg) 8 (pt_w8 (pt_in_lt g9002) ca ad σ) rfl rfl hl.1 rfl (Nat.le_of_ble_eq_true rfl) dX6_start_25 ⟨Nat.zero_le _, Nat.zero_le _⟩ (fun H locs hP hS => ?_)
        refine lv_iinc (v := x4 + (1 : Int32)) (lv' := [(4, .int (x4 + (1 : Int32))), (0, .ref (ad 5)), (1, .int a1), (2, .int a2), (3, .int a3)]) hx hb dX6_start_28 hl (k := 4) rfl rfl (by decide) rfl (fun ls hl => ?_)
        refine lv_goto (tgt := 8) hx hb dX6_start_31 (by decide) ?_
        exact ih0 _ _ h _ _ _ hP hS (lv_sub hl [1, 2, 3, 4, 0] rfl)
  exact L8 _ _ _ h _ _ _ hP hS (lv_sub hl [1, 2, 3, 4, 0] rfl)

def f_X6_threads (σ : pt_St) : Option (Int32 × pt_St) :=
  some ((σ 5 6), σ)
set_option maxHeartbeats 4000000 in
set_option maxRecDepth 100000 in
theorem m_X6_threads (l : Launch) {D : va_G} {A : Nat → Prop} {ca : Nat → ClassId} {ad : Nat → Nat} {z : Nat × Nat} (hDa : ∀ σ, va_D A (wC ca ad σ)) {σ σ' : pt_St} {r : Int32} (h : f_X6_threads σ = some (r, σ')) : Met l yX6_threads wsX6_threads { frames := 0, cells := 0, slots := 0, locals := 0 } (va_Pc [.ref (ad 5)] (pt_Pre D (tysC ca) z A (wC ca ad σ))) (pt_Q (some (.int r)) D (wC ca ad σ') A) 0 0 A := by
  refine Met.ofW (cc := cX6_threads) (maxL := 1) (ret := (some .int)) (by decide) rfl ?_
  intro p e s m args below meth c s₁ B hml hv
  obtain ⟨rfl, hP, hK, hZ⟩ := hv
  have S : CallFix p m c cX6_threads 1 s ([.ref (ad 5)] : List Value).toArray wsX6_threads RX6 := ⟨B.exec, B.bytes, hml, findClass_of_methodNamed B.named, atoms_spec (ws := wsX6_threads) B.pre⟩
  have hx := S.1
  have hb := S.2.1
  have hr := B.returns
  have hlk := B.notSynchronized
  clear B
  have hiX6 : ∀ w ∈ wsX60, w ∈ wsX6_threads := fun w h => List.mem_cons_of_mem _ (List.mem_append_right _ h)
  have hf49 : (Cond.fieldLink RX6 49 "PackThreads$Stream" "threads" "I").before _ s = true := S.2.2.2.2 _ (List.mem_of_getElem? (i := 1) rfl)
  have hS : va_S A s.heap s.heap [] := va_S.rf
  have hl := lv_entry ([.ref (ad 5)]) (n := 1) (Nat.le_of_ble_eq_true rfl)
  rw [lg_entry_eq]
  generalize (lg_sl ([.ref (ad 5)]) ++ List.replicate (1 - (lg_sl ([.ref (ad 5)])).length) Slot.unset).toArray = ls at hl ⊢
  have hl : lv_has ls 1 [(0, .ref (ad 5))] := hl
  unfold f_X6_threads at h
  refine lv_aload_n hx hb dX6_threads_0 rfl (lv_at hl 0 rfl) ?_
  refine gf_X6_6 S hiX6 hK hP hf49 dX6_threads_1 ?_
  exact pt_iret S hr hlk hP hS (pt_pr h).1 (congrArg (wC ca ad) (pt_pr h).2) dX6_threads_4

def f_X6_worker (σ : pt_St) (a1 : Int32) : Option (Int32 × pt_St) :=
  if a1 < (0 : Int32) then
  some ((-1 : Int32), σ)
  else
  if (σ 5 6) ≤ a1 then
  some ((-1 : Int32), σ)
  else
  if (6 : Int32) ≤ a1 then
  some ((-1 : Int32), σ)
  else
  if pt_in a1 6 then
  some (a1, σ)
  else none
set_option maxHeartbeats 4000000 in
set_option maxRecDepth 100000 in
theorem m_X6_worker (l : Launch) {D : va_G} {A : Nat → Prop} {ca : Nat → ClassId} {ad : Nat → Nat} {z : Nat × Nat} (hDa : ∀ σ, va_D A (wC ca ad σ)) {σ σ' : pt_St} {r : Int32} {a1 : Int32} (h : f_X6_worker σ a1 = some (r, σ')) : Met l yX6_worker wsX6_worker { frames := 0, cells := 0, slots := 0, locals := 0 } (va_Pc [.ref (ad 5), .int a1] (pt_Pre D (tysC ca) z A (wC ca ad σ))) (pt_Q (some (va_rf (pt_ln ad r))) D (wC ca ad σ') A) 0 0 A := by
  refine Met.ofW (cc := cX6_worker) (maxL := 2) (ret := (some (.object "PackThreads$Worker"))) (by decide) rfl ?_
  intro p e s m args below meth c s₁ B hml hv
  obtain ⟨rfl, hP, hK, hZ⟩ := hv
  have S : CallFix p m c cX6_worker 2 s ([.ref (ad 5), .int a1] : List Value).toArray wsX6_worker RX6 := ⟨B.exec, B.bytes, hml, findClass_of_methodNamed B.named, atoms_spec (ws := wsX6_worker) B.pre⟩
  have hx := S.1
  have hb := S.2.1
  have hr := B.returns
  have hlk := B.notSynchronized
  clear B
  have hiX6 : ∀ w ∈ wsX60, w ∈ wsX6_worker := fun w h => List.mem_cons_of_mem _ (List.mem_append_right _ h)
  have hf49 : (Cond.fieldLink RX6 49 "PackThreads$Stream" "threads" "I").before _ s = true := S.2.2.2.2 _ (List.mem_of_getElem? (i := 1) rfl)
  have hf11 : (Cond.fieldLink RX6 11 "PackThreads$Stream" "workers" "[LPackThreads$Worker;").before _ s = true := S.2.2.2.2 _ (List.mem_of_getElem? (i := 2) rfl)
  have hS : va_S A s.heap s.heap [] := va_S.rf
  have hl := lv_entry ([.ref (ad 5), .int a1]) (n := 2) (Nat.le_of_ble_eq_true rfl)
  rw [lg_entry_eq]
  generalize (lg_sl ([.ref (ad 5), .int a1]) ++ List.replicate (2 - (lg_sl ([.ref (ad 5), .int a1])).length) Slot.unset).toArray = ls at hl ⊢
  have hl : lv_has ls 2 [(0, .ref (ad 5)), (1, .int a1)] := hl
  unfold f_X6_worker at h
  refine lv_iload_n hx hb dX6_worker_0 rfl (lv_at hl 1 rfl) ?_
  refine lv_if_lt (tgt := 30) hx hb dX6_worker_1 (by decide) (fun c1 => ?_) (fun c1 => ?_)
  · replace h := pt_ip c1 h
    refine lv_null hx hb dX6_worker_30 ?_
    exact pt_aret S hr hlk hP hS (Or.inl rfl) (by rw [(pt_pr h).1, pt_lnN ad (by decide)]; rfl) (congrArg (wC ca ad) (pt_pr h).2) dX6_worker_31
  · replace h := pt_iN c1 h
    refine lv_iload_n hx hb dX6_worker_4 rfl (lv_at hl 1 rfl) ?_
    refine lv_aload_n hx hb dX6_worker_5 rfl (lv_at hl 0 rfl) ?_
    refine gf_X6_6 S hiX6 hK hP hf49 dX6_worker_6 ?_
    refine lv_icmp_ge (tgt := 30) hx hb dX6_worker_9 (by decide) (fun c2 => ?_) (fun c2 => ?_)
    · replace h := pt_ip c2 h
      refine lv_null hx hb dX6_worker_30 ?_
      exact pt_aret S hr hlk hP hS (Or.inl rfl) (by rw [(pt_pr h).1, pt_lnN ad (by decide)]; rfl) (congrArg (wC ca ad) (pt_pr h).2) dX6_worker_31
    · replace h := pt_iN c2 h
      refine lv_iload_n hx hb dX6_worker_12 rfl (lv_at hl 1 rfl) ?_
      refine lv_aload_n hx hb dX6_worker_13 rfl (lv_at hl 0 rfl) ?_
      refine gf_X6_2 S hiX6 hK hP hf11 dX6_worker_14 ?_
      refine ln_C_22 S hK hP dX6_worker_17 ?_
      refine lv_icmp_ge (tgt := 30) hx hb dX6_worker_18 (by decide) (fun c3 => ?_) (fun c3 => ?_)
      · replace h := pt_ip c3 h
        refine lv_null hx hb dX6_worker_30 ?_
        exact pt_aret S hr hlk hP hS (Or.inl rfl) (by rw [(pt_pr h).1, pt_lnN ad (by decide)]; rfl) (congrArg (wC ca ad) (pt_pr h).2) dX6_worker_31
      · replace h := pt_iN c3 h
        refine lv_aload_n hx hb dX6_worker_21 rfl (lv_at hl 0 rfl) ?_
        refine gf_X6_2 S hiX6 hK hP hf11 dX6_worker_22 ?_
        refine lv_iload_n hx hb dX6_worker_25 rfl (lv_at hl 1 rfl) ?_
        replace h := pt_gd h; obtain ⟨g4, h⟩ := h
        refine ld_C_22 S hK hP g4 dX6_worker_26 ?_
        refine lv_goto (tgt := 31) hx hb dX6_worker_27 (by decide) ?_
        exact pt_aret S hr hlk hP hS (Or.inr ⟨_, rfl⟩) (by rw [(pt_pr h).1, pt_lnW ad g4]; rfl) (congrArg (wC ca ad) (pt_pr h).2) dX6_worker_31

def lp_X6_allEnded_2 (k : pt_St → Int32 → Option (Int32 × pt_St)) : Nat → pt_St → Int32 → Option (Int32 × pt_St)
  | 0, _, _ => none
  | n + 1, σ, x1 =>
    if (σ 5 6) ≤ x1 then
    k σ x1
    else
    if (6 : Int32) ≤ x1 then
    k σ x1
    else
    if pt_in x1 6 then
    if (σ (9 + x1.toNatClampNeg) 1) = (4 : Int32) then
    lp_X6_allEnded_2 k n σ (x1 + (1 : Int32))
    else
    some ((0 : Int32), σ)
    else none
def kx_X6_allEnded_2 (σ : pt_St) (x1 : Int32) : Option (Int32 × pt_St) :=
  some ((1 : Int32), σ)
def f_X6_allEnded (σ : pt_St) : Option (Int32 × pt_St) :=
  lp_X6_allEnded_2 (kx_X6_allEnded_2) pt_F σ (0 : Int32)
set_option maxHeartbeats 4000000 in
set_option maxRecDepth 100000 in
theorem m_X6_allEnded (l : Launch) {D : va_G} {A : Nat → Prop} {ca : Nat → ClassId} {ad : Nat → Nat} {z : Nat × Nat} (hDa : ∀ σ, va_D A (wC ca ad σ)) {σ σ' : pt_St} {r : Int32} (h : f_X6_allEnded σ = some (r, σ')) : Met l yX6_allEnded wsX6_allEnded { frames := 0, cells := 0, slots := 0, locals := 0 } (va_Pc [.ref (ad 5)] (pt_Pre D (tysC ca) z A (wC ca ad σ))) (pt_Q (some (.int r)) D (wC ca ad σ') A) 0 0 A := by
  refine Met.ofW (cc := cX6_allEnded) (maxL := 2) (ret := (some .boolean)) (by decide) rfl ?_
  intro p e s m args below meth c s₁ B hml hv
  obtain ⟨rfl, hP, hK, hZ⟩ := hv
  have S : CallFix p m c cX6_allEnded 2 s ([.ref (ad 5)] : List Value).toArray wsX6_allEnded RX6 := ⟨B.exec, B.bytes, hml, findClass_of_methodNamed B.named, atoms_spec (ws := wsX6_allEnded) B.pre⟩
  have hx := S.1
  have hb := S.2.1
  have hr := B.returns
  have hlk := B.notSynchronized
  clear B
  have hiX6 : ∀ w ∈ wsX60, w ∈ wsX6_allEnded := fun w h => List.mem_cons_of_mem _ (List.mem_append_left _ (List.mem_append_right _ h))
  have hiX8 : ∀ w ∈ wsX80, w ∈ wsX6_allEnded := fun w h => List.mem_cons_of_mem _ (List.mem_append_right _ h)
  have hf49 : (Cond.fieldLink RX6 49 "PackThreads$Stream" "threads" "I").before _ s = true := S.2.2.2.2 _ (List.mem_of_getElem? (i := 1) rfl)
  have hf11 : (Cond.fieldLink RX6 11 "PackThreads$Stream" "workers" "[LPackThreads$Worker;").before _ s = true := S.2.2.2.2 _ (List.mem_of_getElem? (i := 2) rfl)
  have hS : va_S A s.heap s.heap [] := va_S.rf
  have hl := lv_entry ([.ref (ad 5)]) (n := 2) (Nat.le_of_ble_eq_true rfl)
  rw [lg_entry_eq]
  generalize (lg_sl ([.ref (ad 5)]) ++ List.replicate (2 - (lg_sl ([.ref (ad 5)])).length) Slot.unset).toArray = ls at hl ⊢
  have hl : lv_has ls 2 [(0, .ref (ad 5))] := hl
  unfold f_X6_allEnded at h
  refine lv_iconst (v := 0) hx hb dX6_allEnded_0 (by decide) ?_
  refine lv_istore_n (lv' := [(1, .int (0 : Int32)), (0, .ref (ad 5))]) hx hb dX6_allEnded_1 rfl hl (by decide) rfl (fun ls hl => ?_)
  have X2 : ∀ (σ : pt_St) (x1 : Int32), kx_X6_allEnded_2 σ x1 = some (r, σ') → ∀ (H : Heap) (locs : List Loc) (ls : Array Slot), va_P D vwCl (wC ca ad σ) H → va_S A s.heap H locs → lv_has ls 2 [(0, .ref (ad 5)), (1, .int x1)] → W p l e (headSpec wsX6_allEnded { frames := 0, cells := 0, slots := 0, locals := 0 }).room s m ([.ref (ad 5)] : List Value).toArray below meth c H locs 0 0 (MQ below (pt_Q (some (.int r)) D (wC ca ad σ') A) ([.ref (ad 5)] : List Value).toArray s 0 0 A) (F0 m 40 ls []) := by
    intro σ x1 h H locs ls hP hS hl
    unfold kx_X6_allEnded_2 at h
    refine lv_iconst (v := 1) hx hb dX6_allEnded_40 (by decide) ?_
    exact pt_zret S hr hlk hP hS (Or.inr rfl) (pt_pr h).1 (congrArg (wC ca ad) (pt_pr h).2) dX6_allEnded_41
  have L2 : ∀ (n : Nat) (σ : pt_St) (x1 : Int32),  lp_X6_allEnded_2 (kx_X6_allEnded_2) n σ x1 = some (r, σ') → ∀ (H : Heap) (locs : List Loc) (ls : Array Slot), va_P D vwCl (wC ca ad σ) H → va_S A s.heap H locs → lv_has ls 2 [(0, .ref (ad 5)), (1, .int x1)] → W p l e (headSpec wsX6_allEnded { frames := 0, cells := 0, slots := 0, locals := 0 }).room s m ([.ref (ad 5)] : List Value).toArray below meth c H locs 0 0 (MQ below (pt_Q (some (.int r)) D (wC ca ad σ') A) ([.ref (ad 5)] : List Value).toArray s 0 0 A) (F0 m 2 ls []) := by
    intro n
    induction n with
    | zero => intro σ x1 h; cases h
    | succ n ih0 =>
      intro σ x1 h H locs ls hP hS hl
      rw [lp_X6_allEnded_2] at h
      refine lv_iload_n hx hb dX6_allEnded_2 rfl (lv_at hl 1 rfl) ?_
      refine lv_aload_n hx hb dX6_allEnded_3 rfl (lv_at hl 0 rfl) ?_
      refine gf_X6_6 S hiX6 hK hP hf49 dX6_allEnded_4 ?_
      refine lv_icmp_ge (tgt := 40) hx hb dX6_allEnded_7 (by decide) (fun c3001 => ?_) (fun c3001 => ?_)
      · replace h := pt_ip c3001 h
        exact X2 _ _ h _ _ _ hP hS (lv_sub hl [0, 1] rfl)
      · replace h := pt_iN c3001 h
        refine lv_iload_n hx hb dX6_allEnded_10 rfl (lv_at hl 1 rfl) ?_
        refine lv_aload_n hx hb dX6_allEnded_11 rfl (lv_at hl 0 rfl) ?_
        refine gf_X6_2 S hiX6 hK hP hf11 dX6_allEnded_12 ?_
        refine ln_C_22 S hK hP dX6_allEnded_15 ?_
        refine lv_icmp_ge (tgt := 40) hx hb dX6_allEnded_16 (by decide) (fun c3002 => ?_) (fun c3002 => ?_)
        · replace h := pt_ip c3002 h
          exact X2 _ _ h _ _ _ hP hS (lv_sub hl [0, 1] rfl)
        · replace h := pt_iN c3002 h
          refine lv_aload_n hx hb dX6_allEnded_19 rfl (lv_at hl 0 rfl) ?_
          refine gf_X6_2 S hiX6 hK hP hf11 dX6_allEnded_20 ?_
          refine lv_iload_n hx hb dX6_allEnded_23 rfl (lv_at hl 1 rfl) ?_
          replace h := pt_gd h; obtain ⟨g3003, h⟩ := h
          refine ld_C_22 S hK hP g3003 dX6_allEnded_24 ?_
          refine gfN_X8_1 (pt_in_lt g3003) S hiX8 hK hP (List.mem_of_getElem? (i := 6) rfl) dX6_allEnded_25 ?_
          refine lv_iconst (v := 4) hx hb dX6_allEnded_28 (by decide) ?_
          refine lv_icmp_eq (tgt := 34) hx hb dX6_allEnded_29 (by decide) (fun c3004 => ?_) (fun c3004 => ?_)
          · replace h := pt_ip c3004 h
            refine lv_iinc (v := x1 + (1 : Int32)) (lv' := [(1, .int (x1 + (1 : Int32))), (0, .ref (ad 5))]) hx hb dX6_allEnded_34 hl (k := 1) rfl rfl (by decide) rfl (fun ls hl => ?_)
            refine lv_goto (tgt := 2) hx hb dX6_allEnded_37 (by decide) ?_
            exact ih0 _ _ h _ _ _ hP hS (lv_sub hl [1, 0] rfl)
          · replace h := pt_iN c3004 h
            refine lv_iconst (v := 0) hx hb dX6_allEnded_32 (by decide) ?_
            exact pt_zret S hr hlk hP hS (Or.inl rfl) (pt_pr h).1 (congrArg (wC ca ad) (pt_pr h).2) dX6_allEnded_33
  exact L2 _ _ _ h _ _ _ hP hS (lv_sub hl [1, 0] rfl)

def f_X6_hasStopped (σ : pt_St) : Option (Int32 × pt_St) :=
  if (σ 5 9) = (-1 : Int32) then
  some ((0 : Int32), σ)
  else
  some ((1 : Int32), σ)
set_option maxHeartbeats 4000000 in
set_option maxRecDepth 100000 in
theorem m_X6_hasStopped (l : Launch) {D : va_G} {A : Nat → Prop} {ca : Nat → ClassId} {ad : Nat → Nat} {z : Nat × Nat} (hDa : ∀ σ, va_D A (wC ca ad σ)) {σ σ' : pt_St} {r : Int32} (h : f_X6_hasStopped σ = some (r, σ')) : Met l yX6_hasStopped wsX6_hasStopped { frames := 0, cells := 0, slots := 0, locals := 0 } (va_Pc [.ref (ad 5)] (pt_Pre D (tysC ca) z A (wC ca ad σ))) (pt_Q (some (.int r)) D (wC ca ad σ') A) 0 0 A := by
  refine Met.ofW (cc := cX6_hasStopped) (maxL := 1) (ret := (some .boolean)) (by decide) rfl ?_
  intro p e s m args below meth c s₁ B hml hv
  obtain ⟨rfl, hP, hK, hZ⟩ := hv
  have S : CallFix p m c cX6_hasStopped 1 s ([.ref (ad 5)] : List Value).toArray wsX6_hasStopped RX6 := ⟨B.exec, B.bytes, hml, findClass_of_methodNamed B.named, atoms_spec (ws := wsX6_hasStopped) B.pre⟩
  have hx := S.1
  have hb := S.2.1
  have hr := B.returns
  have hlk := B.notSynchronized
  clear B
  have hiX6 : ∀ w ∈ wsX60, w ∈ wsX6_hasStopped := fun w h => List.mem_cons_of_mem _ (List.mem_append_right _ h)
  have hf68 : (Cond.fieldLink RX6 68 "PackThreads$Stream" "stoppedAt" "I").before _ s = true := S.2.2.2.2 _ (List.mem_of_getElem? (i := 1) rfl)
  have hS : va_S A s.heap s.heap [] := va_S.rf
  have hl := lv_entry ([.ref (ad 5)]) (n := 1) (Nat.le_of_ble_eq_true rfl)
  rw [lg_entry_eq]
  generalize (lg_sl ([.ref (ad 5)]) ++ List.replicate (1 - (lg_sl ([.ref (ad 5)])).length) Slot.unset).toArray = ls at hl ⊢
  have hl : lv_has ls 1 [(0, .ref (ad 5))] := hl
  unfold f_X6_hasStopped at h
  refine lv_aload_n hx hb dX6_hasStopped_0 rfl (lv_at hl 0 rfl) ?_
  refine gf_X6_9 S hiX6 hK hP hf68 dX6_hasStopped_1 ?_
  refine lv_iconst (v := -1) hx hb dX6_hasStopped_4 (by decide) ?_
  refine lv_icmp_eq (tgt := 12) hx hb dX6_hasStopped_5 (by decide) (fun c1 => ?_) (fun c1 => ?_)
  · replace h := pt_ip c1 h
    refine lv_iconst (v := 0) hx hb dX6_hasStopped_12 (by decide) ?_
    exact pt_zret S hr hlk hP hS (Or.inl rfl) (pt_pr h).1 (congrArg (wC ca ad) (pt_pr h).2) dX6_hasStopped_13
  · replace h := pt_iN c1 h
    refine lv_iconst (v := 1) hx hb dX6_hasStopped_8 (by decide) ?_
    refine lv_goto (tgt := 13) hx hb dX6_hasStopped_9 (by decide) ?_
    exact pt_zret S hr hlk hP hS (Or.inr rfl) (pt_pr h).1 (congrArg (wC ca ad) (pt_pr h).2) dX6_hasStopped_13

def lp_X6_isAnyAtWork_2 (k : pt_St → Int32 → Option (Int32 × pt_St)) : Nat → pt_St → Int32 → Option (Int32 × pt_St)
  | 0, _, _ => none
  | n + 1, σ, x1 =>
    if (6 : Int32) ≤ x1 then
    k σ x1
    else
    if pt_in x1 6 then
    if (σ (9 + x1.toNatClampNeg) 1) = (2 : Int32) then
    some ((1 : Int32), σ)
    else
    lp_X6_isAnyAtWork_2 k n σ (x1 + (1 : Int32))
    else none
def kx_X6_isAnyAtWork_2 (σ : pt_St) (x1 : Int32) : Option (Int32 × pt_St) :=
  some ((0 : Int32), σ)
def f_X6_isAnyAtWork (σ : pt_St) : Option (Int32 × pt_St) :=
  lp_X6_isAnyAtWork_2 (kx_X6_isAnyAtWork_2) pt_F σ (0 : Int32)
set_option maxHeartbeats 4000000 in
set_option maxRecDepth 100000 in
theorem m_X6_isAnyAtWork (l : Launch) {D : va_G} {A : Nat → Prop} {ca : Nat → ClassId} {ad : Nat → Nat} {z : Nat × Nat} (hDa : ∀ σ, va_D A (wC ca ad σ)) {σ σ' : pt_St} {r : Int32} (h : f_X6_isAnyAtWork σ = some (r, σ')) : Met l yX6_isAnyAtWork wsX6_isAnyAtWork { frames := 0, cells := 0, slots := 0, locals := 0 } (va_Pc [.ref (ad 5)] (pt_Pre D (tysC ca) z A (wC ca ad σ))) (pt_Q (some (.int r)) D (wC ca ad σ') A) 0 0 A := by
  refine Met.ofW (cc := cX6_isAnyAtWork) (maxL := 2) (ret := (some .boolean)) (by decide) rfl ?_
  intro p e s m args below meth c s₁ B hml hv
  obtain ⟨rfl, hP, hK, hZ⟩ := hv
  have S : CallFix p m c cX6_isAnyAtWork 2 s ([.ref (ad 5)] : List Value).toArray wsX6_isAnyAtWork RX6 := ⟨B.exec, B.bytes, hml, findClass_of_methodNamed B.named, atoms_spec (ws := wsX6_isAnyAtWork) B.pre⟩
  have hx := S.1
  have hb := S.2.1
  have hr := B.returns
  have hlk := B.notSynchronized
  clear B
  have hiX6 : ∀ w ∈ wsX60, w ∈ wsX6_isAnyAtWork := fun w h => List.mem_cons_of_mem _ (List.mem_append_left _ (List.mem_append_right _ h))
  have hiX8 : ∀ w ∈ wsX80, w ∈ wsX6_isAnyAtWork := fun w h => List.mem_cons_of_mem _ (List.mem_append_right _ h)
  have hf11 : (Cond.fieldLink RX6 11 "PackThreads$Stream" "workers" "[LPackThreads$Worker;").before _ s = true := S.2.2.2.2 _ (List.mem_of_getElem? (i := 1) rfl)
  have hS : va_S A s.heap s.heap [] := va_S.rf
  have hl := lv_entry ([.ref (ad 5)]) (n := 2) (Nat.le_of_ble_eq_true rfl)
  rw [lg_entry_eq]
  generalize (lg_sl ([.ref (ad 5)]) ++ List.replicate (2 - (lg_sl ([.ref (ad 5)])).length) Slot.unset).toArray = ls at hl ⊢
  have hl : lv_has ls 2 [(0, .ref (ad 5))] := hl
  unfold f_X6_isAnyAtWork at h
  refine lv_iconst (v := 0) hx hb dX6_isAnyAtWork_0 (by decide) ?_
  refine lv_istore_n (lv' := [(1, .int (0 : Int32)), (0, .ref (ad 5))]) hx hb dX6_isAnyAtWork_1 rfl hl (by decide) rfl (fun ls hl => ?_)
  have X2 : ∀ (σ : pt_St) (x1 : Int32), kx_X6_isAnyAtWork_2 σ x1 = some (r, σ') → ∀ (H : Heap) (locs : List Loc) (ls : Array Slot), va_P D vwCl (wC ca ad σ) H → va_S A s.heap H locs → lv_has ls 2 [(0, .ref (ad 5)), (1, .int x1)] → W p l e (headSpec wsX6_isAnyAtWork { frames := 0, cells := 0, slots := 0, locals := 0 }).room s m ([.ref (ad 5)] : List Value).toArray below meth c H locs 0 0 (MQ below (pt_Q (some (.int r)) D (wC ca ad σ') A) ([.ref (ad 5)] : List Value).toArray s 0 0 A) (F0 m 32 ls []) := by
    intro σ x1 h H locs ls hP hS hl
    unfold kx_X6_isAnyAtWork_2 at h
    refine lv_iconst (v := 0) hx hb dX6_isAnyAtWork_32 (by decide) ?_
    exact pt_zret S hr hlk hP hS (Or.inl rfl) (pt_pr h).1 (congrArg (wC ca ad) (pt_pr h).2) dX6_isAnyAtWork_33
  have L2 : ∀ (n : Nat) (σ : pt_St) (x1 : Int32),  lp_X6_isAnyAtWork_2 (kx_X6_isAnyAtWork_2) n σ x1 = some (r, σ') → ∀ (H : Heap) (locs : List Loc) (ls : Array Slot), va_P D vwCl (wC ca ad σ) H → va_S A s.heap H locs → lv_has ls 2 [(0, .ref (ad 5)), (1, .int x1)] → W p l e (headSpec wsX6_isAnyAtWork { frames := 0, cells := 0, slots := 0, locals := 0 }).room s m ([.ref (ad 5)] : List Value).toArray below meth c H locs 0 0 (MQ below (pt_Q (some (.int r)) D (wC ca ad σ') A) ([.ref (ad 5)] : List Value).toArray s 0 0 A) (F0 m 2 ls []) := by
    intro n
    induction n with
    | zero => intro σ x1 h; cases h
    | succ n ih0 =>
      intro σ x1 h H locs ls hP hS hl
      rw [lp_X6_isAnyAtWork_2] at h
      refine lv_iload_n hx hb dX6_isAnyAtWork_2 rfl (lv_at hl 1 rfl) ?_
      refine lv_aload_n hx hb dX6_isAnyAtWork_3 rfl (lv_at hl 0 rfl) ?_
      refine gf_X6_2 S hiX6 hK hP hf11 dX6_isAnyAtWork_4 ?_
      refine ln_C_22 S hK hP dX6_isAnyAtWork_7 ?_
      refine lv_icmp_ge (tgt := 32) hx hb dX6_isAnyAtWork_8 (by decide) (fun c3001 => ?_) (fun c3001 => ?_)
      · replace h := pt_ip c3001 h
        exact X2 _ _ h _ _ _ hP hS (lv_sub hl [0, 1] rfl)
      · replace h := pt_iN c3001 h
        refine lv_aload_n hx hb dX6_isAnyAtWork_11 rfl (lv_at hl 0 rfl) ?_
        refine gf_X6_2 S hiX6 hK hP hf11 dX6_isAnyAtWork_12 ?_
        refine lv_iload_n hx hb dX6_isAnyAtWork_15 rfl (lv_at hl 1 rfl) ?_
        replace h := pt_gd h; obtain ⟨g3002, h⟩ := h
        refine ld_C_22 S hK hP g3002 dX6_isAnyAtWork_16 ?_
        refine gfN_X8_1 (pt_in_lt g3002) S hiX8 hK hP (List.mem_of_getElem? (i := 6) rfl) dX6_isAnyAtWork_17 ?_
        refine lv_iconst (v := 2) hx hb dX6_isAnyAtWork_20 (by decide) ?_
        refine lv_icmp_ne (tgt := 26) hx hb dX6_isAnyAtWork_21 (by decide) (fun c3003 => ?_) (fun c3003 => ?_)
        · replace h := pt_iN c3003 h
          refine lv_iinc (v := x1 + (1 : Int32)) (lv' := [(1, .int (x1 + (1 : Int32))), (0, .ref (ad 5))]) hx hb dX6_isAnyAtWork_26 hl (k := 1) rfl rfl (by decide) rfl (fun ls hl => ?_)
          refine lv_goto (tgt := 2) hx hb dX6_isAnyAtWork_29 (by decide) ?_
          exact ih0 _ _ h _ _ _ hP hS (lv_sub hl [1, 0] rfl)
        · replace h := pt_ip c3003 h
          refine lv_iconst (v := 1) hx hb dX6_isAnyAtWork_24 (by decide) ?_
          exact pt_zret S hr hlk hP hS (Or.inr rfl) (pt_pr h).1 (congrArg (wC ca ad) (pt_pr h).2) dX6_isAnyAtWork_25
  exact L2 _ _ _ h _ _ _ hP hS (lv_sub hl [1, 0] rfl)

def lp_X6_isBlockDoneAgain_2 (k : pt_St → Int32 → Option (Int32 × pt_St)) : Nat → pt_St → Int32 → Option (Int32 × pt_St)
  | 0, _, _ => none
  | n + 1, σ, x1 =>
    if (6 : Int32) ≤ x1 then
    k σ x1
    else
    if pt_in x1 6 then
    if (σ (9 + x1.toNatClampNeg) 1) = (2 : Int32) then
    pt_b2 (f_X0_has σ (σ (9 + x1.toNatClampNeg) 2)) fun r3004 σ3004 =>
    if r3004 = (0 : Int32) then
    lp_X6_isBlockDoneAgain_2 k n σ3004 (x1 + (1 : Int32))
    else
    some ((1 : Int32), σ3004)
    else
    lp_X6_isBlockDoneAgain_2 k n σ (x1 + (1 : Int32))
    else none
def kx_X6_isBlockDoneAgain_2 (σ : pt_St) (x1 : Int32) : Option (Int32 × pt_St) :=
  some ((0 : Int32), σ)
def f_X6_isBlockDoneAgain (σ : pt_St) : Option (Int32 × pt_St) :=
  lp_X6_isBlockDoneAgain_2 (kx_X6_isBlockDoneAgain_2) pt_F σ (0 : Int32)
set_option maxHeartbeats 4000000 in
set_option maxRecDepth 100000 in
theorem m_X6_isBlockDoneAgain (l : Launch) {D : va_G} {A : Nat → Prop} {ca : Nat → ClassId} {ad : Nat → Nat} {z : Nat × Nat} (hDa : ∀ σ, va_D A (wC ca ad σ)) {σ σ' : pt_St} {r : Int32} (h : f_X6_isBlockDoneAgain σ = some (r, σ')) : Met l yX6_isBlockDoneAgain wsX6_isBlockDoneAgain { frames := 1, cells := 0, slots := 0, locals := 21 } (va_Pc [.ref (ad 5)] (pt_Pre D (tysC ca) z A (wC ca ad σ))) (pt_Q (some (.int r)) D (wC ca ad σ') A) 0 0 A := by
  refine Met.ofW (cc := cX6_isBlockDoneAgain) (maxL := 3) (ret := (some .boolean)) (by decide) rfl ?_
  intro p e s m args below meth c s₁ B hml hv
  obtain ⟨rfl, hP, hK, hZ⟩ := hv
  have S : CallFix p m c cX6_isBlockDoneAgain 3 s ([.ref (ad 5)] : List Value).toArray wsX6_isBlockDoneAgain RX6 := ⟨B.exec, B.bytes, hml, findClass_of_methodNamed B.named, atoms_spec (ws := wsX6_isBlockDoneAgain) B.pre⟩
  have hx := S.1
  have hb := S.2.1
  have hr := B.returns
  have hlk := B.notSynchronized
  clear B
  have hiX6 : ∀ w ∈ wsX60, w ∈ wsX6_isBlockDoneAgain := fun w h => List.mem_cons_of_mem _ (List.mem_append_left _ (List.mem_append_left _ (List.mem_append_right _ h)))
  have hiX8 : ∀ w ∈ wsX80, w ∈ wsX6_isBlockDoneAgain := fun w h => List.mem_cons_of_mem _ (List.mem_append_left _ (List.mem_append_right _ h))
  have hiX0 : ∀ w ∈ wsX00, w ∈ wsX6_isBlockDoneAgain := fun w h => List.mem_cons_of_mem _ (List.mem_append_right _ h)
  have hf11 : (Cond.fieldLink RX6 11 "PackThreads$Stream" "workers" "[LPackThreads$Worker;").before _ s = true := S.2.2.2.2 _ (List.mem_of_getElem? (i := 1) rfl)
  have hf34 : (Cond.fieldLink RX6 34 "PackThreads$Stream" "failed" "LPackThreads$Failed;").before _ s = true := S.2.2.2.2 _ (List.mem_of_getElem? (i := 2) rfl)
  have hS : va_S A s.heap s.heap [] := va_S.rf
  have hl := lv_entry ([.ref (ad 5)]) (n := 3) (Nat.le_of_ble_eq_true rfl)
  rw [lg_entry_eq]
  generalize (lg_sl ([.ref (ad 5)]) ++ List.replicate (3 - (lg_sl ([.ref (ad 5)])).length) Slot.unset).toArray = ls at hl ⊢
  have hl : lv_has ls 3 [(0, .ref (ad 5))] := hl
  unfold f_X6_isBlockDoneAgain at h
  refine lv_iconst (v := 0) hx hb dX6_isBlockDoneAgain_0 (by decide) ?_
  refine lv_istore_n (lv' := [(1, .int (0 : Int32)), (0, .ref (ad 5))]) hx hb dX6_isBlockDoneAgain_1 rfl hl (by decide) rfl (fun ls hl => ?_)
  have X2 : ∀ (σ : pt_St) (x1 : Int32), kx_X6_isBlockDoneAgain_2 σ x1 = some (r, σ') → ∀ (H : Heap) (locs : List Loc) (ls : Array Slot), va_P D vwCl (wC ca ad σ) H → va_S A s.heap H locs → lv_has ls 3 [(0, .ref (ad 5)), (1, .int x1)] → W p l e (headSpec wsX6_isBlockDoneAgain { frames := 1, cells := 0, slots := 0, locals := 21 }).room s m ([.ref (ad 5)] : List Value).toArray below meth c H locs 0 0 (MQ below (pt_Q (some (.int r)) D (wC ca ad σ') A) ([.ref (ad 5)] : List Value).toArray s 0 0 A) (F0 m 48 ls []) := by
    intro σ x1 h H locs ls hP hS hl
    unfold kx_X6_isBlockDoneAgain_2 at h
    refine lv_iconst (v := 0) hx hb dX6_isBlockDoneAgain_48 (by decide) ?_
    exact pt_zret S hr hlk hP hS (Or.inl rfl) (pt_pr h).1 (congrArg (wC ca ad) (pt_pr h).2) dX6_isBlockDoneAgain_49
  have L2 : ∀ (n : Nat) (σ : pt_St) (x1 : Int32),  lp_X6_isBlockDoneAgain_2 (kx_X6_isBlockDoneAgain_2) n σ x1 = some (r, σ') → ∀ (H : Heap) (locs : List Loc) (ls : Array Slot), va_P D vwCl (wC ca ad σ) H → va_S A s.heap H locs → lv_has ls 3 [(0, .ref (ad 5)), (1, .int x1)] → W p l e (headSpec wsX6_isBlockDoneAgain { frames := 1, cells := 0, slots := 0, locals := 21 }).room s m ([.ref (ad 5)] : List Value).toArray below meth c H locs 0 0 (MQ below (pt_Q (some (.int r)) D (wC ca ad σ') A) ([.ref (ad 5)] : List Value).toArray s 0 0 A) (F0 m 2 ls []) := by
    intro n
    induction n with
    | zero => intro σ x1 h; cases h
    | succ n ih0 =>
      intro σ x1 h H locs ls hP hS hl
      rw [lp_X6_isBlockDoneAgain_2] at h
      refine lv_iload_n hx hb dX6_isBlockDoneAgain_2 rfl (lv_at hl 1 rfl) ?_
      refine lv_aload_n hx hb dX6_isBlockDoneAgain_3 rfl (lv_at hl 0 rfl) ?_
      refine gf_X6_2 S hiX6 hK hP hf11 dX6_isBlockDoneAgain_4 ?_
      refine ln_C_22 S hK hP dX6_isBlockDoneAgain_7 ?_
      refine lv_icmp_ge (tgt := 48) hx hb dX6_isBlockDoneAgain_8 (by decide) (fun c3001 => ?_) (fun c3001 => ?_)
      · replace h := pt_ip c3001 h
        exact X2 _ _ h _ _ _ hP hS (lv_sub hl [0, 1] rfl)
      · replace h := pt_iN c3001 h
        refine lv_aload_n hx hb dX6_isBlockDoneAgain_11 rfl (lv_at hl 0 rfl) ?_
        refine gf_X6_2 S hiX6 hK hP hf11 dX6_isBlockDoneAgain_12 ?_
        refine lv_iload_n hx hb dX6_isBlockDoneAgain_15 rfl (lv_at hl 1 rfl) ?_
        replace h := pt_gd h; obtain ⟨g3002, h⟩ := h
        refine ld_C_22 S hK hP g3002 dX6_isBlockDoneAgain_16 ?_
        refine lv_astore_n (lv' := [(2, .ref (ad (9 + x1.toNatClampNeg))), (0, .ref (ad 5)), (1, .int x1)]) hx hb dX6_isBlockDoneAgain_17 rfl hl (by decide) rfl (fun ls hl => ?_)
        refine lv_aload_n hx hb dX6_isBlockDoneAgain_18 rfl (lv_at hl 0 rfl) ?_
        refine gfN_X8_1 (pt_in_lt g3002) S hiX8 hK hP (List.mem_of_getElem? (i := 6) rfl) dX6_isBlockDoneAgain_19 ?_
        refine lv_iconst (v := 2) hx hb dX6_isBlockDoneAgain_22 (by decide) ?_
        refine lv_icmp_ne (tgt := 42) hx hb dX6_isBlockDoneAgain_23 (by decide) (fun c3003 => ?_) (fun c3003 => ?_)
        · replace h := pt_iN c3003 h
          refine lv_iinc (v := x1 + (1 : Int32)) (lv' := [(1, .int (x1 + (1 : Int32))), (2, .ref (ad (9 + x1.toNatClampNeg))), (0, .ref (ad 5))]) hx hb dX6_isBlockDoneAgain_42 hl (k := 2) rfl rfl (by decide) rfl (fun ls hl => ?_)
          refine lv_goto (tgt := 2) hx hb dX6_isBlockDoneAgain_45 (by decide) ?_
          exact ih0 _ _ h _ _ _ hP hS (lv_sub hl [2, 0] rfl)
        · replace h := pt_ip c3003 h
          refine lv_aload_n hx hb dX6_isBlockDoneAgain_26 rfl (lv_at hl 1 rfl) ?_
          refine gf_X6_5 S hiX6 hK hP hf34 dX6_isBlockDoneAgain_27 ?_
          refine lv_aload_n hx hb dX6_isBlockDoneAgain_30 rfl (lv_at hl 0 rfl) ?_
          refine gfN_X8_2 (pt_in_lt g3002) S hiX8 hK hP (List.mem_of_getElem? (i := 7) rfl) dX6_isBlockDoneAgain_31 ?_
          replace h := pt_b2s h; obtain ⟨r3004, σ3004, e3004, h⟩ := h
          refine pt_cVi (As := [.int (σ (9 + x1.toNatClampNeg) 2)]) (rest := []) S (m_X0_has l hDa e3004) (cwV 1 S.2.2.2.2 gX6_isBlockDoneAgain_X0_has rfl rfl rfl (by decide +kernel) ⟨Nat.le_of_ble_eq_true rfl, Nat.le_of_ble_eq_true rfl⟩) hK hP hS hZ 8 0 rfl rfl rfl hl.1 rfl (Nat.le_of_ble_eq_true rfl) dX6_isBlockDoneAgain_34 ⟨Nat.zero_le _, Nat.zero_le _⟩ (fun H locs hP hS => ?_)
          refine lv_if_eq (tgt := 42) hx hb dX6_isBlockDoneAgain_37 (by decide) (fun c3005 => ?_) (fun c3005 => ?_)
          · replace h := pt_ip c3005 h
            refine lv_iinc (v := x1 + (1 : Int32)) (lv' := [(1, .int (x1 + (1 : Int32))), (2, .ref (ad (9 + x1.toNatClampNeg))), (0, .ref (ad 5))]) hx hb dX6_isBlockDoneAgain_42 hl (k := 2) rfl rfl (by decide) rfl (fun ls hl => ?_)
            refine lv_goto (tgt := 2) hx hb dX6_isBlockDoneAgain_45 (by decide) ?_
            exact ih0 _ _ h _ _ _ hP hS (lv_sub hl [2, 0] rfl)
          · replace h := pt_iN c3005 h
            refine lv_iconst (v := 1) hx hb dX6_isBlockDoneAgain_40 (by decide) ?_
            exact pt_zret S hr hlk hP hS (Or.inr rfl) (pt_pr h).1 (congrArg (wC ca ad) (pt_pr h).2) dX6_isBlockDoneAgain_41
  exact L2 _ _ _ h _ _ _ hP hS (lv_sub hl [1, 0] rfl)

def f_X6_take (σ : pt_St) (a1 : Int32) (a2 : Int32) : Option pt_St :=
  pt_b2 (f_X2_bytesOf σ a2) fun r1 σ1 =>
  pt_b1 (f_X8_choose σ1 a1 a2 r1) fun σ2 =>
  pt_b1 (f_X1_ask σ2 a1) fun σ3 =>
  some σ3
set_option maxHeartbeats 4000000 in
set_option maxRecDepth 100000 in
theorem m_X6_take (l : Launch) {D : va_G} {A : Nat → Prop} {ca : Nat → ClassId} {ad : Nat → Nat} {z : Nat × Nat} (hDa : ∀ σ, va_D A (wC ca ad σ)) {σ σ' : pt_St} {a1 : Int32} (ha1 : pt_iw a1) {a2 : Int32} (h : f_X6_take σ a1 a2 = some σ') : Met l yX6_take wsX6_take { frames := 2, cells := 0, slots := 0, locals := 46 } (va_Pc [.ref (ad 5), .ref (ad (9 + a1.toNatClampNeg)), .int a2] (pt_Pre D (tysC ca) z A (wC ca ad σ))) (pt_Q none D (wC ca ad σ') A) 0 0 A := by
  refine Met.ofW (cc := cX6_take) (maxL := 3) (ret := none) (by decide) rfl ?_
  intro p e s m args below meth c s₁ B hml hv
  obtain ⟨rfl, hP, hK, hZ⟩ := hv
  have S : CallFix p m c cX6_take 3 s ([.ref (ad 5), .ref (ad (9 + a1.toNatClampNeg)), .int a2] : List Value).toArray wsX6_take RX6 := ⟨B.exec, B.bytes, hml, findClass_of_methodNamed B.named, atoms_spec (ws := wsX6_take) B.pre⟩
  have hx := S.1
  have hb := S.2.1
  have hr := B.returns
  have hlk := B.notSynchronized
  clear B
  have hiX6 : ∀ w ∈ wsX60, w ∈ wsX6_take := fun w h => List.mem_cons_of_mem _ (List.mem_append_left _ (List.mem_append_left _ (List.mem_append_left _ (List.mem_append_left _ (List.mem_append_left _ (List.mem_append_right _ h))))))
  have hiX2 : ∀ w ∈ wsX20, w ∈ wsX6_take := fun w h => List.mem_cons_of_mem _ (List.mem_append_left _ (List.mem_append_left _ (List.mem_append_left _ (List.mem_append_left _ (List.mem_append_right _ h)))))
  have hiX5 : ∀ w ∈ wsX50, w ∈ wsX6_take := fun w h => List.mem_cons_of_mem _ (List.mem_append_left _ (List.mem_append_left _ (List.mem_append_left _ (List.mem_append_right _ h))))
  have hiX7 : ∀ w ∈ wsX70, w ∈ wsX6_take := fun w h => List.mem_cons_of_mem _ (List.mem_append_left _ (List.mem_append_left _ (List.mem_append_right _ h)))
  have hiX8 : ∀ w ∈ wsX80, w ∈ wsX6_take := fun w h => List.mem_cons_of_mem _ (List.mem_append_left _ (List.mem_append_right _ h))
  have hiX1 : ∀ w ∈ wsX10, w ∈ wsX6_take := fun w h => List.mem_cons_of_mem _ (List.mem_append_right _ h)
  have hf38 : (Cond.fieldLink RX6 38 "PackThreads$Stream" "packs" "LPackThreads$Packs;").before _ s = true := S.2.2.2.2 _ (List.mem_of_getElem? (i := 1) rfl)
  have hf20 : (Cond.fieldLink RX6 20 "PackThreads$Stream" "memory" "LPackThreads$Memory;").before _ s = true := S.2.2.2.2 _ (List.mem_of_getElem? (i := 2) rfl)
  have hS : va_S A s.heap s.heap [] := va_S.rf
  have hl := lv_entry ([.ref (ad 5), .ref (ad (9 + a1.toNatClampNeg)), .int a2]) (n := 3) (Nat.le_of_ble_eq_true rfl)
  rw [lg_entry_eq]
  generalize (lg_sl ([.ref (ad 5), .ref (ad (9 + a1.toNatClampNeg)), .int a2]) ++ List.replicate (3 - (lg_sl ([.ref (ad 5), .ref (ad (9 + a1.toNatClampNeg)), .int a2])).length) Slot.unset).toArray = ls at hl ⊢
  have hl : lv_has ls 3 [(0, .ref (ad 5)), (1, .ref (ad (9 + a1.toNatClampNeg))), (2, .int a2)] := hl
  unfold f_X6_take at h
  refine lv_aload_n hx hb dX6_take_0 rfl (lv_at hl 1 rfl) ?_
  refine lv_iload_n hx hb dX6_take_1 rfl (lv_at hl 2 rfl) ?_
  refine lv_aload_n hx hb dX6_take_2 rfl (lv_at hl 0 rfl) ?_
  refine gf_X6_0 S hiX6 hK hP hf38 dX6_take_3 ?_
  refine lv_iload_n hx hb dX6_take_6 rfl (lv_at hl 2 rfl) ?_
  replace h := pt_b2s h; obtain ⟨r1, σ1, e1, h⟩ := h
  refine pt_cVi (As := [.int a2]) (rest := [.int a2, .ref (ad (9 + a1.toNatClampNeg))]) S (m_X2_bytesOf l hDa e1) (cwV 1 S.2.2.2.2 gX6_take_X2_bytesOf rfl rfl rfl (by decide +kernel) ⟨Nat.le_of_ble_eq_true rfl, Nat.le_of_ble_eq_true rfl⟩) hK hP hS hZ 4 2 rfl rfl rfl hl.1 rfl (Nat.le_of_ble_eq_true rfl) dX6_take_7 ⟨Nat.zero_le _, Nat.zero_le _⟩ (fun H locs hP hS => ?_)
  replace h := pt_b1s h; obtain ⟨σ2, e2, h⟩ := h
  refine pt_cVv (As := [.int a2, .int r1]) (rest := []) S (m_X8_choose l hDa ha1 e2) (cwV 2 S.2.2.2.2 gX6_take_X8_choose rfl rfl rfl (by decide +kernel) ⟨Nat.le_of_ble_eq_true rfl, Nat.le_of_ble_eq_true rfl⟩) hK hP hS hZ (9 + a1.toNatClampNeg) 8 (pt_w8 (pt_in_lt ha1) ca ad σ1) rfl rfl hl.1 rfl (Nat.le_of_ble_eq_true rfl) dX6_take_10 ⟨Nat.zero_le _, Nat.zero_le _⟩ (fun H locs hP hS => ?_)
  refine lv_aload_n hx hb dX6_take_13 rfl (lv_at hl 0 rfl) ?_
  refine gf_X6_3 S hiX6 hK hP hf20 dX6_take_14 ?_
  refine lv_aload_n hx hb dX6_take_17 rfl (lv_at hl 1 rfl) ?_
  replace h := pt_b1s h; obtain ⟨σ3, e3, h⟩ := h
  refine pt_cVv (As := [.ref (ad (9 + a1.toNatClampNeg))]) (rest := []) S (m_X1_ask l hDa ha1 e3) (cwV 1 S.2.2.2.2 gX6_take_X1_ask rfl rfl rfl (by decide +kernel) ⟨Nat.le_of_ble_eq_true rfl, Nat.le_of_ble_eq_true rfl⟩) hK hP hS hZ 6 1 rfl rfl rfl hl.1 rfl (Nat.le_of_ble_eq_true rfl) dX6_take_18 ⟨Nat.zero_le _, Nat.zero_le _⟩ (fun H locs hP hS => ?_)
  exact pt_vret S hr hlk hP hS (congrArg (wC ca ad) (pt_so h)) dX6_take_21

def f_X6_doFree (σ : pt_St) (a1 : Int32) : Option (Int32 × pt_St) :=
  if (σ (9 + a1.toNatClampNeg) 7) = (0 : Int32) then
  pt_b2 (f_X6_hasStopped σ) fun r2 σ2 =>
  if r2 = (0 : Int32) then
  pt_b2 (f_X2_blocks σ2) fun r4 σ4 =>
  if (σ2 7 3) < r4 then
  pt_b2 (f_X6_isBlockDoneAgain σ4) fun r6 σ6 =>
  if r6 = (0 : Int32) then
  if (σ6 8 2) ≤ (0 : Int32) then
  pt_b2 (f_X2_blocks σ6) fun r9 σ9 =>
  if (σ6 5 8) < r9 then
  pt_b1 (f_X6_take σ9 a1 (σ9 5 8)) fun σ11 =>
  pt_do (pt_put σ11 5 8 ((σ11 5 8) + (1 : Int32))) fun σ12 =>
  some ((1 : Int32), σ12)
  else
  some ((0 : Int32), σ9)
  else
  pt_b2 (f_X6_isAnyAtWork σ6) fun r13 σ13 =>
  if r13 = (0 : Int32) then
  pt_b2 (f_X0_takeFirst σ13) fun r15 σ15 =>
  pt_b1 (f_X6_take σ15 a1 r15) fun σ16 =>
  some ((1 : Int32), σ16)
  else
  some ((0 : Int32), σ13)
  else
  some ((0 : Int32), σ6)
  else
  pt_b1 (f_X8_end σ4 a1) fun σ17 =>
  some ((1 : Int32), σ17)
  else
  pt_b1 (f_X8_end σ2 a1) fun σ18 =>
  some ((1 : Int32), σ18)
  else
  pt_b1 (f_X8_end σ a1) fun σ19 =>
  some ((1 : Int32), σ19)
set_option maxHeartbeats 4000000 in
set_option maxRecDepth 100000 in
theorem m_X6_doFree (l : Launch) {D : va_G} {A : Nat → Prop} {ca : Nat → ClassId} {ad : Nat → Nat} {z : Nat × Nat} (hDa : ∀ σ, va_D A (wC ca ad σ)) {σ σ' : pt_St} {r : Int32} {a1 : Int32} (ha1 : pt_iw a1) (h : f_X6_doFree σ a1 = some (r, σ')) : Met l yX6_doFree wsX6_doFree { frames := 3, cells := 0, slots := 0, locals := 68 } (va_Pc [.ref (ad 5), .ref (ad (9 + a1.toNatClampNeg))] (pt_Pre D (tysC ca) z A (wC ca ad σ))) (pt_Q (some (.int r)) D (wC ca ad σ') A) 0 0 A := by
  refine Met.ofW (cc := cX6_doFree) (maxL := 2) (ret := (some .boolean)) (by decide) rfl ?_
  intro p e s m args below meth c s₁ B hml hv
  obtain ⟨rfl, hP, hK, hZ⟩ := hv
  have S : CallFix p m c cX6_doFree 2 s ([.ref (ad 5), .ref (ad (9 + a1.toNatClampNeg))] : List Value).toArray wsX6_doFree RX6 := ⟨B.exec, B.bytes, hml, findClass_of_methodNamed B.named, atoms_spec (ws := wsX6_doFree) B.pre⟩
  have hx := S.1
  have hb := S.2.1
  have hr := B.returns
  have hlk := B.notSynchronized
  clear B
  have hiX8 : ∀ w ∈ wsX80, w ∈ wsX6_doFree := fun w h => List.mem_cons_of_mem _ (List.mem_append_left _ (List.mem_append_left _ (List.mem_append_left _ (List.mem_append_left _ (List.mem_append_left _ (List.mem_append_left _ (List.mem_append_left _ (List.mem_append_right _ h))))))))
  have hiX6 : ∀ w ∈ wsX60, w ∈ wsX6_doFree := fun w h => List.mem_cons_of_mem _ (List.mem_append_left _ (List.mem_append_left _ (List.mem_append_left _ (List.mem_append_left _ (List.mem_append_left _ (List.mem_append_left _ (List.mem_append_right _ h)))))))
  have hiX4 : ∀ w ∈ wsX40, w ∈ wsX6_doFree := fun w h => List.mem_cons_of_mem _ (List.mem_append_left _ (List.mem_append_left _ (List.mem_append_left _ (List.mem_append_left _ (List.mem_append_left _ (List.mem_append_right _ h))))))
  have hiX0 : ∀ w ∈ wsX00, w ∈ wsX6_doFree := fun w h => List.mem_cons_of_mem _ (List.mem_append_left _ (List.mem_append_left _ (List.mem_append_left _ (List.mem_append_left _ (List.mem_append_right _ h)))))
  have hiX2 : ∀ w ∈ wsX20, w ∈ wsX6_doFree := fun w h => List.mem_cons_of_mem _ (List.mem_append_left _ (List.mem_append_left _ (List.mem_append_left _ (List.mem_append_right _ h))))
  have hiX5 : ∀ w ∈ wsX50, w ∈ wsX6_doFree := fun w h => List.mem_cons_of_mem _ (List.mem_append_left _ (List.mem_append_left _ (List.mem_append_right _ h)))
  have hiX7 : ∀ w ∈ wsX70, w ∈ wsX6_doFree := fun w h => List.mem_cons_of_mem _ (List.mem_append_left _ (List.mem_append_right _ h))
  have hiX1 : ∀ w ∈ wsX10, w ∈ wsX6_doFree := fun w h => List.mem_cons_of_mem _ (List.mem_append_right _ h)
  have hf27 : (Cond.fieldLink RX6 27 "PackThreads$Stream" "row" "LPackThreads$Row;").before _ s = true := S.2.2.2.2 _ (List.mem_of_getElem? (i := 1) rfl)
  have hf38 : (Cond.fieldLink RX6 38 "PackThreads$Stream" "packs" "LPackThreads$Packs;").before _ s = true := S.2.2.2.2 _ (List.mem_of_getElem? (i := 2) rfl)
  have hf34 : (Cond.fieldLink RX6 34 "PackThreads$Stream" "failed" "LPackThreads$Failed;").before _ s = true := S.2.2.2.2 _ (List.mem_of_getElem? (i := 3) rfl)
  have hf65 : (Cond.fieldLink RX6 65 "PackThreads$Stream" "nextBlock" "I").before _ s = true := S.2.2.2.2 _ (List.mem_of_getElem? (i := 4) rfl)
  have hS : va_S A s.heap s.heap [] := va_S.rf
  have hl := lv_entry ([.ref (ad 5), .ref (ad (9 + a1.toNatClampNeg))]) (n := 2) (Nat.le_of_ble_eq_true rfl)
  rw [lg_entry_eq]
  generalize (lg_sl ([.ref (ad 5), .ref (ad (9 + a1.toNatClampNeg))]) ++ List.replicate (2 - (lg_sl ([.ref (ad 5), .ref (ad (9 + a1.toNatClampNeg))])).length) Slot.unset).toArray = ls at hl ⊢
  have hl : lv_has ls 2 [(0, .ref (ad 5)), (1, .ref (ad (9 + a1.toNatClampNeg)))] := hl
  unfold f_X6_doFree at h
  refine lv_aload_n hx hb dX6_doFree_0 rfl (lv_at hl 1 rfl) ?_
  refine gfN_X8_7 (pt_in_lt ha1) S hiX8 hK hP (List.mem_of_getElem? (i := 13) rfl) dX6_doFree_1 ?_
  refine lv_if_ne (tgt := 31) hx hb dX6_doFree_4 (by decide) (fun c1 => ?_) (fun c1 => ?_)
  · replace h := pt_iN c1 h
    refine lv_aload_n hx hb dX6_doFree_31 rfl (lv_at hl 1 rfl) ?_
    replace h := pt_b1s h; obtain ⟨σ19, e19, h⟩ := h
    refine pt_cVv (As := []) (rest := []) S (m_X8_end l hDa ha1 e19) (cwV 0 S.2.2.2.2 gX6_doFree_X8_end rfl rfl rfl (by decide +kernel) ⟨Nat.le_of_ble_eq_true rfl, Nat.le_of_ble_eq_true rfl⟩) hK hP hS hZ (9 + a1.toNatClampNeg) 8 (pt_w8 (pt_in_lt ha1) ca ad σ) rfl rfl hl.1 rfl (Nat.le_of_ble_eq_true rfl) dX6_doFree_32 ⟨Nat.zero_le _, Nat.zero_le _⟩ (fun H locs hP hS => ?_)
    refine lv_iconst (v := 1) hx hb dX6_doFree_35 (by decide) ?_
    exact pt_zret S hr hlk hP hS (Or.inr rfl) (pt_pr h).1 (congrArg (wC ca ad) (pt_pr h).2) dX6_doFree_36
  · replace h := pt_ip c1 h
    refine lv_aload_n hx hb dX6_doFree_7 rfl (lv_at hl 0 rfl) ?_
    replace h := pt_b2s h; obtain ⟨r2, σ2, e2, h⟩ := h
    refine pt_cVi (As := []) (rest := []) S (m_X6_hasStopped l hDa e2) (cwV 0 S.2.2.2.2 gX6_doFree_X6_hasStopped rfl rfl rfl (by decide +kernel) ⟨Nat.le_of_ble_eq_true rfl, Nat.le_of_ble_eq_true rfl⟩) hK hP hS hZ 5 6 rfl rfl rfl hl.1 rfl (Nat.le_of_ble_eq_true rfl) dX6_doFree_8 ⟨Nat.zero_le _, Nat.zero_le _⟩ (fun H locs hP hS => ?_)
    refine lv_if_ne (tgt := 31) hx hb dX6_doFree_11 (by decide) (fun c3 => ?_) (fun c3 => ?_)
    · replace h := pt_iN c3 h
      refine lv_aload_n hx hb dX6_doFree_31 rfl (lv_at hl 1 rfl) ?_
      replace h := pt_b1s h; obtain ⟨σ18, e18, h⟩ := h
      refine pt_cVv (As := []) (rest := []) S (m_X8_end l hDa ha1 e18) (cwV 0 S.2.2.2.2 gX6_doFree_X8_end rfl rfl rfl (by decide +kernel) ⟨Nat.le_of_ble_eq_true rfl, Nat.le_of_ble_eq_true rfl⟩) hK hP hS hZ (9 + a1.toNatClampNeg) 8 (pt_w8 (pt_in_lt ha1) ca ad σ2) rfl rfl hl.1 rfl (Nat.le_of_ble_eq_true rfl) dX6_doFree_32 ⟨Nat.zero_le _, Nat.zero_le _⟩ (fun H locs hP hS => ?_)
      refine lv_iconst (v := 1) hx hb dX6_doFree_35 (by decide) ?_
      exact pt_zret S hr hlk hP hS (Or.inr rfl) (pt_pr h).1 (congrArg (wC ca ad) (pt_pr h).2) dX6_doFree_36
    · replace h := pt_ip c3 h
      refine lv_aload_n hx hb dX6_doFree_14 rfl (lv_at hl 0 rfl) ?_
      refine gf_X6_4 S hiX6 hK hP hf27 dX6_doFree_15 ?_
      refine gfN_X4_3 S hiX4 hK hP (List.mem_of_getElem? (i := 3) rfl) dX6_doFree_18 ?_
      refine lv_aload_n hx hb dX6_doFree_21 rfl (lv_at hl 0 rfl) ?_
      refine gf_X6_0 S hiX6 hK hP hf38 dX6_doFree_22 ?_
      replace h := pt_b2s h; obtain ⟨r4, σ4, e4, h⟩ := h
      refine pt_cVi (As := []) (rest := [.int (σ2 7 3)]) S (m_X2_blocks l hDa e4) (cwV 0 S.2.2.2.2 gX6_doFree_X2_blocks rfl rfl rfl (by decide +kernel) ⟨Nat.le_of_ble_eq_true rfl, Nat.le_of_ble_eq_true rfl⟩) hK hP hS hZ 4 2 rfl rfl rfl hl.1 rfl (Nat.le_of_ble_eq_true rfl) dX6_doFree_25 ⟨Nat.zero_le _, Nat.zero_le _⟩ (fun H locs hP hS => ?_)
      refine lv_icmp_lt (tgt := 37) hx hb dX6_doFree_28 (by decide) (fun c5 => ?_) (fun c5 => ?_)
      · replace h := pt_ip c5 h
        refine lv_aload_n hx hb dX6_doFree_37 rfl (lv_at hl 0 rfl) ?_
        replace h := pt_b2s h; obtain ⟨r6, σ6, e6, h⟩ := h
        refine pt_cVi (As := []) (rest := []) S (m_X6_isBlockDoneAgain l hDa e6) (cwV 0 S.2.2.2.2 gX6_doFree_X6_isBlockDoneAgain rfl rfl rfl (by decide +kernel) ⟨Nat.le_of_ble_eq_true rfl, Nat.le_of_ble_eq_true rfl⟩) hK hP hS hZ 5 6 rfl rfl rfl hl.1 rfl (Nat.le_of_ble_eq_true rfl) dX6_doFree_38 ⟨Nat.zero_le _, Nat.zero_le _⟩ (fun H locs hP hS => ?_)
        refine lv_if_eq (tgt := 46) hx hb dX6_doFree_41 (by decide) (fun c7 => ?_) (fun c7 => ?_)
        · replace h := pt_ip c7 h
          refine lv_aload_n hx hb dX6_doFree_46 rfl (lv_at hl 0 rfl) ?_
          refine gf_X6_5 S hiX6 hK hP hf34 dX6_doFree_47 ?_
          refine gfN_X0_2 S hiX0 hK hP (List.mem_of_getElem? (i := 4) rfl) dX6_doFree_50 ?_
          refine lv_if_le (tgt := 79) hx hb dX6_doFree_53 (by decide) (fun c8 => ?_) (fun c8 => ?_)
          · replace h := pt_ip c8 h
            refine lv_aload_n hx hb dX6_doFree_79 rfl (lv_at hl 0 rfl) ?_
            refine gf_X6_8 S hiX6 hK hP hf65 dX6_doFree_80 ?_
            refine lv_aload_n hx hb dX6_doFree_83 rfl (lv_at hl 0 rfl) ?_
            refine gf_X6_0 S hiX6 hK hP hf38 dX6_doFree_84 ?_
            replace h := pt_b2s h; obtain ⟨r9, σ9, e9, h⟩ := h
            refine pt_cVi (As := []) (rest := [.int (σ6 5 8)]) S (m_X2_blocks l hDa e9) (cwV 0 S.2.2.2.2 gX6_doFree_X2_blocks rfl rfl rfl (by decide +kernel) ⟨Nat.le_of_ble_eq_true rfl, Nat.le_of_ble_eq_true rfl⟩) hK hP hS hZ 4 2 rfl rfl rfl hl.1 rfl (Nat.le_of_ble_eq_true rfl) dX6_doFree_87 ⟨Nat.zero_le _, Nat.zero_le _⟩ (fun H locs hP hS => ?_)
            refine lv_icmp_lt (tgt := 95) hx hb dX6_doFree_90 (by decide) (fun c10 => ?_) (fun c10 => ?_)
            · replace h := pt_ip c10 h
              refine lv_aload_n hx hb dX6_doFree_95 rfl (lv_at hl 0 rfl) ?_
              refine lv_aload_n hx hb dX6_doFree_96 rfl (lv_at hl 1 rfl) ?_
              refine lv_aload_n hx hb dX6_doFree_97 rfl (lv_at hl 0 rfl) ?_
              refine gf_X6_8 S hiX6 hK hP hf65 dX6_doFree_98 ?_
              replace h := pt_b1s h; obtain ⟨σ11, e11, h⟩ := h
              refine pt_cVv (As := [.ref (ad (9 + a1.toNatClampNeg)), .int (σ9 5 8)]) (rest := []) S (m_X6_take l hDa ha1 e11) (cwV 2 S.2.2.2.2 gX6_doFree_X6_take rfl rfl rfl (by decide +kernel) ⟨Nat.le_of_ble_eq_true rfl, Nat.le_of_ble_eq_true rfl⟩) hK hP hS hZ 5 6 rfl rfl rfl hl.1 rfl (Nat.le_of_ble_eq_true rfl) dX6_doFree_101 ⟨Nat.zero_le _, Nat.zero_le _⟩ (fun H locs hP hS => ?_)
              refine lv_aload_n hx hb dX6_doFree_104 rfl (lv_at hl 0 rfl) ?_
              refine lv_dup hx hb dX6_doFree_105 rfl ?_
              refine gf_X6_8 S hiX6 hK hP hf65 dX6_doFree_106 ?_
              refine lv_iconst (v := 1) hx hb dX6_doFree_109 (by decide) ?_
              refine lv_iadd hx hb dX6_doFree_110 ?_
              replace h := pt_dos h; obtain ⟨σ12, e12, h⟩ := h
              refine pf_X6_8 S hiX6 hK hP hDa hS hf65 e12 dX6_doFree_111 (fun H locs hP hS => ?_)
              refine lv_iconst (v := 1) hx hb dX6_doFree_114 (by decide) ?_
              exact pt_zret S hr hlk hP hS (Or.inr rfl) (pt_pr h).1 (congrArg (wC ca ad) (pt_pr h).2) dX6_doFree_115
            · replace h := pt_iN c10 h
              refine lv_iconst (v := 0) hx hb dX6_doFree_93 (by decide) ?_
              exact pt_zret S hr hlk hP hS (Or.inl rfl) (pt_pr h).1 (congrArg (wC ca ad) (pt_pr h).2) dX6_doFree_94
          · replace h := pt_iN c8 h
            refine lv_aload_n hx hb dX6_doFree_56 rfl (lv_at hl 0 rfl) ?_
            replace h := pt_b2s h; obtain ⟨r13, σ13, e13, h⟩ := h
            refine pt_cVi (As := []) (rest := []) S (m_X6_isAnyAtWork l hDa e13) (cwV 0 S.2.2.2.2 gX6_doFree_X6_isAnyAtWork rfl rfl rfl (by decide +kernel) ⟨Nat.le_of_ble_eq_true rfl, Nat.le_of_ble_eq_true rfl⟩) hK hP hS hZ 5 6 rfl rfl rfl hl.1 rfl (Nat.le_of_ble_eq_true rfl) dX6_doFree_57 ⟨Nat.zero_le _, Nat.zero_le _⟩ (fun H locs hP hS => ?_)
            refine lv_if_eq (tgt := 65) hx hb dX6_doFree_60 (by decide) (fun c14 => ?_) (fun c14 => ?_)
            · replace h := pt_ip c14 h
              refine lv_aload_n hx hb dX6_doFree_65 rfl (lv_at hl 0 rfl) ?_
              refine lv_aload_n hx hb dX6_doFree_66 rfl (lv_at hl 1 rfl) ?_
              refine lv_aload_n hx hb dX6_doFree_67 rfl (lv_at hl 0 rfl) ?_
              refine gf_X6_5 S hiX6 hK hP hf34 dX6_doFree_68 ?_
              replace h := pt_b2s h; obtain ⟨r15, σ15, e15, h⟩ := h
              refine pt_cVi (As := []) (rest := [.ref (ad (9 + a1.toNatClampNeg)), .ref (ad 5)]) S (m_X0_takeFirst l hDa e15) (cwV 0 S.2.2.2.2 gX6_doFree_X0_takeFirst rfl rfl rfl (by decide +kernel) ⟨Nat.le_of_ble_eq_true rfl, Nat.le_of_ble_eq_true rfl⟩) hK hP hS hZ 8 0 rfl rfl rfl hl.1 rfl (Nat.le_of_ble_eq_true rfl) dX6_doFree_71 ⟨Nat.zero_le _, Nat.zero_le _⟩ (fun H locs hP hS => ?_)
              replace h := pt_b1s h; obtain ⟨σ16, e16, h⟩ := h
              refine pt_cVv (As := [.ref (ad (9 + a1.toNatClampNeg)), .int r15]) (rest := []) S (m_X6_take l hDa ha1 e16) (cwV 2 S.2.2.2.2 gX6_doFree_X6_take rfl rfl rfl (by decide +kernel) ⟨Nat.le_of_ble_eq_true rfl, Nat.le_of_ble_eq_true rfl⟩) hK hP hS hZ 5 6 rfl rfl rfl hl.1 rfl (Nat.le_of_ble_eq_true rfl) dX6_doFree_74 ⟨Nat.zero_le _, Nat.zero_le _⟩ (fun H locs hP hS => ?_)
              refine lv_iconst (v := 1) hx hb dX6_doFree_77 (by decide) ?_
              exact pt_zret S hr hlk hP hS (Or.inr rfl) (pt_pr h).1 (congrArg (wC ca ad) (pt_pr h).2) dX6_doFree_78
            · replace h := pt_iN c14 h
              refine lv_iconst (v := 0) hx hb dX6_doFree_63 (by decide) ?_
              exact pt_zret S hr hlk hP hS (Or.inl rfl) (pt_pr h).1 (congrArg (wC ca ad) (pt_pr h).2) dX6_doFree_64
        · replace h := pt_iN c7 h
          refine lv_iconst (v := 0) hx hb dX6_doFree_44 (by decide) ?_
          exact pt_zret S hr hlk hP hS (Or.inl rfl) (pt_pr h).1 (congrArg (wC ca ad) (pt_pr h).2) dX6_doFree_45
      · replace h := pt_iN c5 h
        refine lv_aload_n hx hb dX6_doFree_31 rfl (lv_at hl 1 rfl) ?_
        replace h := pt_b1s h; obtain ⟨σ17, e17, h⟩ := h
        refine pt_cVv (As := []) (rest := []) S (m_X8_end l hDa ha1 e17) (cwV 0 S.2.2.2.2 gX6_doFree_X8_end rfl rfl rfl (by decide +kernel) ⟨Nat.le_of_ble_eq_true rfl, Nat.le_of_ble_eq_true rfl⟩) hK hP hS hZ (9 + a1.toNatClampNeg) 8 (pt_w8 (pt_in_lt ha1) ca ad σ4) rfl rfl hl.1 rfl (Nat.le_of_ble_eq_true rfl) dX6_doFree_32 ⟨Nat.zero_le _, Nat.zero_le _⟩ (fun H locs hP hS => ?_)
        refine lv_iconst (v := 1) hx hb dX6_doFree_35 (by decide) ?_
        exact pt_zret S hr hlk hP hS (Or.inr rfl) (pt_pr h).1 (congrArg (wC ca ad) (pt_pr h).2) dX6_doFree_36

def f_X6_layPack (σ : pt_St) (a1 : Int32) : Option (Int32 × pt_St) :=
  pt_b2 (f_X4_lay σ (σ (9 + a1.toNatClampNeg) 2)) fun r1 σ1 =>
  if r1 = (0 : Int32) then
  some ((0 : Int32), σ1)
  else
  pt_b1 (f_X8_becomeFree σ1 a1) fun σ3 =>
  some ((1 : Int32), σ3)
set_option maxHeartbeats 4000000 in
set_option maxRecDepth 100000 in
theorem m_X6_layPack (l : Launch) {D : va_G} {A : Nat → Prop} {ca : Nat → ClassId} {ad : Nat → Nat} {z : Nat × Nat} (hDa : ∀ σ, va_D A (wC ca ad σ)) {σ σ' : pt_St} {r : Int32} {a1 : Int32} (ha1 : pt_iw a1) (h : f_X6_layPack σ a1 = some (r, σ')) : Met l yX6_layPack wsX6_layPack { frames := 1, cells := 0, slots := 0, locals := 21 } (va_Pc [.ref (ad 5), .ref (ad (9 + a1.toNatClampNeg))] (pt_Pre D (tysC ca) z A (wC ca ad σ))) (pt_Q (some (.int r)) D (wC ca ad σ') A) 0 0 A := by
  refine Met.ofW (cc := cX6_layPack) (maxL := 2) (ret := (some .boolean)) (by decide) rfl ?_
  intro p e s m args below meth c s₁ B hml hv
  obtain ⟨rfl, hP, hK, hZ⟩ := hv
  have S : CallFix p m c cX6_layPack 2 s ([.ref (ad 5), .ref (ad (9 + a1.toNatClampNeg))] : List Value).toArray wsX6_layPack RX6 := ⟨B.exec, B.bytes, hml, findClass_of_methodNamed B.named, atoms_spec (ws := wsX6_layPack) B.pre⟩
  have hx := S.1
  have hb := S.2.1
  have hr := B.returns
  have hlk := B.notSynchronized
  clear B
  have hiX6 : ∀ w ∈ wsX60, w ∈ wsX6_layPack := fun w h => List.mem_cons_of_mem _ (List.mem_append_left _ (List.mem_append_left _ (List.mem_append_right _ h)))
  have hiX8 : ∀ w ∈ wsX80, w ∈ wsX6_layPack := fun w h => List.mem_cons_of_mem _ (List.mem_append_left _ (List.mem_append_right _ h))
  have hiX4 : ∀ w ∈ wsX40, w ∈ wsX6_layPack := fun w h => List.mem_cons_of_mem _ (List.mem_append_right _ h)
  have hf27 : (Cond.fieldLink RX6 27 "PackThreads$Stream" "row" "LPackThreads$Row;").before _ s = true := S.2.2.2.2 _ (List.mem_of_getElem? (i := 1) rfl)
  have hS : va_S A s.heap s.heap [] := va_S.rf
  have hl := lv_entry ([.ref (ad 5), .ref (ad (9 + a1.toNatClampNeg))]) (n := 2) (Nat.le_of_ble_eq_true rfl)
  rw [lg_entry_eq]
  generalize (lg_sl ([.ref (ad 5), .ref (ad (9 + a1.toNatClampNeg))]) ++ List.replicate (2 - (lg_sl ([.ref (ad 5), .ref (ad (9 + a1.toNatClampNeg))])).length) Slot.unset).toArray = ls at hl ⊢
  have hl : lv_has ls 2 [(0, .ref (ad 5)), (1, .ref (ad (9 + a1.toNatClampNeg)))] := hl
  unfold f_X6_layPack at h
  refine lv_aload_n hx hb dX6_layPack_0 rfl (lv_at hl 0 rfl) ?_
  refine gf_X6_4 S hiX6 hK hP hf27 dX6_layPack_1 ?_
  refine lv_aload_n hx hb dX6_layPack_4 rfl (lv_at hl 1 rfl) ?_
  refine gfN_X8_2 (pt_in_lt ha1) S hiX8 hK hP (List.mem_of_getElem? (i := 7) rfl) dX6_layPack_5 ?_
  replace h := pt_b2s h; obtain ⟨r1, σ1, e1, h⟩ := h
  refine pt_cVi (As := [.int (σ (9 + a1.toNatClampNeg) 2)]) (rest := []) S (m_X4_lay l hDa e1) (cwV 1 S.2.2.2.2 gX6_layPack_X4_lay rfl rfl rfl (by decide +kernel) ⟨Nat.le_of_ble_eq_true rfl, Nat.le_of_ble_eq_true rfl⟩) hK hP hS hZ 7 4 rfl rfl rfl hl.1 rfl (Nat.le_of_ble_eq_true rfl) dX6_layPack_8 ⟨Nat.zero_le _, Nat.zero_le _⟩ (fun H locs hP hS => ?_)
  refine lv_if_ne (tgt := 16) hx hb dX6_layPack_11 (by decide) (fun c2 => ?_) (fun c2 => ?_)
  · replace h := pt_iN c2 h
    refine lv_aload_n hx hb dX6_layPack_16 rfl (lv_at hl 1 rfl) ?_
    replace h := pt_b1s h; obtain ⟨σ3, e3, h⟩ := h
    refine pt_cVv (As := []) (rest := []) S (m_X8_becomeFree l hDa ha1 e3) (cwV 0 S.2.2.2.2 gX6_layPack_X8_becomeFree rfl rfl rfl (by decide +kernel) ⟨Nat.le_of_ble_eq_true rfl, Nat.le_of_ble_eq_true rfl⟩) hK hP hS hZ (9 + a1.toNatClampNeg) 8 (pt_w8 (pt_in_lt ha1) ca ad σ1) rfl rfl hl.1 rfl (Nat.le_of_ble_eq_true rfl) dX6_layPack_17 ⟨Nat.zero_le _, Nat.zero_le _⟩ (fun H locs hP hS => ?_)
    refine lv_iconst (v := 1) hx hb dX6_layPack_20 (by decide) ?_
    exact pt_zret S hr hlk hP hS (Or.inr rfl) (pt_pr h).1 (congrArg (wC ca ad) (pt_pr h).2) dX6_layPack_21
  · replace h := pt_ip c2 h
    refine lv_iconst (v := 0) hx hb dX6_layPack_14 (by decide) ?_
    exact pt_zret S hr hlk hP hS (Or.inl rfl) (pt_pr h).1 (congrArg (wC ca ad) (pt_pr h).2) dX6_layPack_15

def f_X6_doHolding (σ : pt_St) (a1 : Int32) : Option (Int32 × pt_St) :=
  pt_b2 (f_X6_hasStopped σ) fun r1 σ1 =>
  if r1 = (0 : Int32) then
  pt_b2 (f_X6_layPack σ1 a1) fun r3 σ3 =>
  if r3 = 0 ∨ r3 = 1 then some (r3, σ3) else none
  else
  pt_b1 (f_X8_end σ1 a1) fun σ5 =>
  some ((1 : Int32), σ5)
set_option maxHeartbeats 4000000 in
set_option maxRecDepth 100000 in
theorem m_X6_doHolding (l : Launch) {D : va_G} {A : Nat → Prop} {ca : Nat → ClassId} {ad : Nat → Nat} {z : Nat × Nat} (hDa : ∀ σ, va_D A (wC ca ad σ)) {σ σ' : pt_St} {r : Int32} {a1 : Int32} (ha1 : pt_iw a1) (h : f_X6_doHolding σ a1 = some (r, σ')) : Met l yX6_doHolding wsX6_doHolding { frames := 2, cells := 0, slots := 0, locals := 42 } (va_Pc [.ref (ad 5), .ref (ad (9 + a1.toNatClampNeg))] (pt_Pre D (tysC ca) z A (wC ca ad σ))) (pt_Q (some (.int r)) D (wC ca ad σ') A) 0 0 A := by
  refine Met.ofW (cc := cX6_doHolding) (maxL := 2) (ret := (some .boolean)) (by decide) rfl ?_
  intro p e s m args below meth c s₁ B hml hv
  obtain ⟨rfl, hP, hK, hZ⟩ := hv
  have S : CallFix p m c cX6_doHolding 2 s ([.ref (ad 5), .ref (ad (9 + a1.toNatClampNeg))] : List Value).toArray wsX6_doHolding RX6 := ⟨B.exec, B.bytes, hml, findClass_of_methodNamed B.named, atoms_spec (ws := wsX6_doHolding) B.pre⟩
  have hx := S.1
  have hb := S.2.1
  have hr := B.returns
  have hlk := B.notSynchronized
  clear B
  have hiX6 : ∀ w ∈ wsX60, w ∈ wsX6_doHolding := fun w h => List.mem_cons_of_mem _ (List.mem_append_left _ (List.mem_append_left _ (List.mem_append_right _ h)))
  have hiX8 : ∀ w ∈ wsX80, w ∈ wsX6_doHolding := fun w h => List.mem_cons_of_mem _ (List.mem_append_left _ (List.mem_append_right _ h))
  have hiX4 : ∀ w ∈ wsX40, w ∈ wsX6_doHolding := fun w h => List.mem_cons_of_mem _ (List.mem_append_right _ h)
  have hS : va_S A s.heap s.heap [] := va_S.rf
  have hl := lv_entry ([.ref (ad 5), .ref (ad (9 + a1.toNatClampNeg))]) (n := 2) (Nat.le_of_ble_eq_true rfl)
  rw [lg_entry_eq]
  generalize (lg_sl ([.ref (ad 5), .ref (ad (9 + a1.toNatClampNeg))]) ++ List.replicate (2 - (lg_sl ([.ref (ad 5), .ref (ad (9 + a1.toNatClampNeg))])).length) Slot.unset).toArray = ls at hl ⊢
  have hl : lv_has ls 2 [(0, .ref (ad 5)), (1, .ref (ad (9 + a1.toNatClampNeg)))] := hl
  unfold f_X6_doHolding at h
  refine lv_aload_n hx hb dX6_doHolding_0 rfl (lv_at hl 0 rfl) ?_
  replace h := pt_b2s h; obtain ⟨r1, σ1, e1, h⟩ := h
  refine pt_cVi (As := []) (rest := []) S (m_X6_hasStopped l hDa e1) (cwV 0 S.2.2.2.2 gX6_doHolding_X6_hasStopped rfl rfl rfl (by decide +kernel) ⟨Nat.le_of_ble_eq_true rfl, Nat.le_of_ble_eq_true rfl⟩) hK hP hS hZ 5 6 rfl rfl rfl hl.1 rfl (Nat.le_of_ble_eq_true rfl) dX6_doHolding_1 ⟨Nat.zero_le _, Nat.zero_le _⟩ (fun H locs hP hS => ?_)
  refine lv_if_eq (tgt := 13) hx hb dX6_doHolding_4 (by decide) (fun c2 => ?_) (fun c2 => ?_)
  · replace h := pt_ip c2 h
    refine lv_aload_n hx hb dX6_doHolding_13 rfl (lv_at hl 0 rfl) ?_
    refine lv_aload_n hx hb dX6_doHolding_14 rfl (lv_at hl 1 rfl) ?_
    replace h := pt_b2s h; obtain ⟨r3, σ3, e3, h⟩ := h
    refine pt_cVi (As := [.ref (ad (9 + a1.toNatClampNeg))]) (rest := []) S (m_X6_layPack l hDa ha1 e3) (cwV 1 S.2.2.2.2 gX6_doHolding_X6_layPack rfl rfl rfl (by decide +kernel) ⟨Nat.le_of_ble_eq_true rfl, Nat.le_of_ble_eq_true rfl⟩) hK hP hS hZ 5 6 rfl rfl rfl hl.1 rfl (Nat.le_of_ble_eq_true rfl) dX6_doHolding_15 ⟨Nat.zero_le _, Nat.zero_le _⟩ (fun H locs hP hS => ?_)
    replace h := pt_gd h; obtain ⟨g4, h⟩ := h
    exact pt_zret S hr hlk hP hS g4 (pt_pr h).1 (congrArg (wC ca ad) (pt_pr h).2) dX6_doHolding_18
  · replace h := pt_iN c2 h
    refine lv_aload_n hx hb dX6_doHolding_7 rfl (lv_at hl 1 rfl) ?_
    replace h := pt_b1s h; obtain ⟨σ5, e5, h⟩ := h
    refine pt_cVv (As := []) (rest := []) S (m_X8_end l hDa ha1 e5) (cwV 0 S.2.2.2.2 gX6_doHolding_X8_end rfl rfl rfl (by decide +kernel) ⟨Nat.le_of_ble_eq_true rfl, Nat.le_of_ble_eq_true rfl⟩) hK hP hS hZ (9 + a1.toNatClampNeg) 8 (pt_w8 (pt_in_lt ha1) ca ad σ1) rfl rfl hl.1 rfl (Nat.le_of_ble_eq_true rfl) dX6_doHolding_8 ⟨Nat.zero_le _, Nat.zero_le _⟩ (fun H locs hP hS => ?_)
    refine lv_iconst (v := 1) hx hb dX6_doHolding_11 (by decide) ?_
    exact pt_zret S hr hlk hP hS (Or.inr rfl) (pt_pr h).1 (congrArg (wC ca ad) (pt_pr h).2) dX6_doHolding_12

def f_X6_fail (σ : pt_St) (a1 : Int32) (a2 : Int32) : Option pt_St :=
  pt_b1 (f_X1_giveBack σ (σ (9 + a1.toNatClampNeg) 4)) fun σ1 =>
  pt_b1 (f_X8_becomeFree σ1 a1) fun σ2 =>
  pt_do (pt_put σ2 5 11 ((σ2 5 11) + (1 : Int32))) fun σ3 =>
  pt_b2 (f_X0_has σ3 (σ (9 + a1.toNatClampNeg) 2)) fun r4 σ4 =>
  if r4 = (0 : Int32) then
  pt_b1 (f_X0_add σ4 (σ (9 + a1.toNatClampNeg) 2)) fun σ6 =>
  some σ6
  else
  pt_do (pt_put σ4 5 9 (σ (9 + a1.toNatClampNeg) 2)) fun σ7 =>
  pt_do (pt_put σ7 5 10 a2) fun σ8 =>
  some σ8
set_option maxHeartbeats 4000000 in
set_option maxRecDepth 100000 in
theorem m_X6_fail (l : Launch) {D : va_G} {A : Nat → Prop} {ca : Nat → ClassId} {ad : Nat → Nat} {z : Nat × Nat} (hDa : ∀ σ, va_D A (wC ca ad σ)) {σ σ' : pt_St} {a1 : Int32} (ha1 : pt_iw a1) {a2 : Int32} (h : f_X6_fail σ a1 a2 = some σ') : Met l yX6_fail wsX6_fail { frames := 2, cells := 0, slots := 0, locals := 44 } (va_Pc [.ref (ad 5), .ref (ad (9 + a1.toNatClampNeg)), .int a2] (pt_Pre D (tysC ca) z A (wC ca ad σ))) (pt_Q none D (wC ca ad σ') A) 0 0 A := by
  refine Met.ofW (cc := cX6_fail) (maxL := 4) (ret := none) (by decide) rfl ?_
  intro p e s m args below meth c s₁ B hml hv
  obtain ⟨rfl, hP, hK, hZ⟩ := hv
  have S : CallFix p m c cX6_fail 4 s ([.ref (ad 5), .ref (ad (9 + a1.toNatClampNeg)), .int a2] : List Value).toArray wsX6_fail RX6 := ⟨B.exec, B.bytes, hml, findClass_of_methodNamed B.named, atoms_spec (ws := wsX6_fail) B.pre⟩
  have hx := S.1
  have hb := S.2.1
  have hr := B.returns
  have hlk := B.notSynchronized
  clear B
  have hiX8 : ∀ w ∈ wsX80, w ∈ wsX6_fail := fun w h => List.mem_cons_of_mem _ (List.mem_append_left _ (List.mem_append_left _ (List.mem_append_left _ (List.mem_append_right _ h))))
  have hiX6 : ∀ w ∈ wsX60, w ∈ wsX6_fail := fun w h => List.mem_cons_of_mem _ (List.mem_append_left _ (List.mem_append_left _ (List.mem_append_right _ h)))
  have hiX1 : ∀ w ∈ wsX10, w ∈ wsX6_fail := fun w h => List.mem_cons_of_mem _ (List.mem_append_left _ (List.mem_append_right _ h))
  have hiX0 : ∀ w ∈ wsX00, w ∈ wsX6_fail := fun w h => List.mem_cons_of_mem _ (List.mem_append_right _ h)
  have hf20 : (Cond.fieldLink RX6 20 "PackThreads$Stream" "memory" "LPackThreads$Memory;").before _ s = true := S.2.2.2.2 _ (List.mem_of_getElem? (i := 1) rfl)
  have hf74 : (Cond.fieldLink RX6 74 "PackThreads$Stream" "failures" "I").before _ s = true := S.2.2.2.2 _ (List.mem_of_getElem? (i := 2) rfl)
  have hf34 : (Cond.fieldLink RX6 34 "PackThreads$Stream" "failed" "LPackThreads$Failed;").before _ s = true := S.2.2.2.2 _ (List.mem_of_getElem? (i := 3) rfl)
  have hf68 : (Cond.fieldLink RX6 68 "PackThreads$Stream" "stoppedAt" "I").before _ s = true := S.2.2.2.2 _ (List.mem_of_getElem? (i := 4) rfl)
  have hf71 : (Cond.fieldLink RX6 71 "PackThreads$Stream" "stoppedKind" "I").before _ s = true := S.2.2.2.2 _ (List.mem_of_getElem? (i := 5) rfl)
  have hS : va_S A s.heap s.heap [] := va_S.rf
  have hl := lv_entry ([.ref (ad 5), .ref (ad (9 + a1.toNatClampNeg)), .int a2]) (n := 4) (Nat.le_of_ble_eq_true rfl)
  rw [lg_entry_eq]
  generalize (lg_sl ([.ref (ad 5), .ref (ad (9 + a1.toNatClampNeg)), .int a2]) ++ List.replicate (4 - (lg_sl ([.ref (ad 5), .ref (ad (9 + a1.toNatClampNeg)), .int a2])).length) Slot.unset).toArray = ls at hl ⊢
  have hl : lv_has ls 4 [(0, .ref (ad 5)), (1, .ref (ad (9 + a1.toNatClampNeg))), (2, .int a2)] := hl
  unfold f_X6_fail at h
  refine lv_aload_n hx hb dX6_fail_0 rfl (lv_at hl 1 rfl) ?_
  refine gfN_X8_2 (pt_in_lt ha1) S hiX8 hK hP (List.mem_of_getElem? (i := 7) rfl) dX6_fail_1 ?_
  refine lv_istore_n (lv' := [(3, .int (σ (9 + a1.toNatClampNeg) 2)), (0, .ref (ad 5)), (1, .ref (ad (9 + a1.toNatClampNeg))), (2, .int a2)]) hx hb dX6_fail_4 rfl hl (by decide) rfl (fun ls hl => ?_)
  refine lv_aload_n hx hb dX6_fail_5 rfl (lv_at hl 1 rfl) ?_
  refine gf_X6_3 S hiX6 hK hP hf20 dX6_fail_6 ?_
  refine lv_aload_n hx hb dX6_fail_9 rfl (lv_at hl 2 rfl) ?_
  refine gfN_X8_4 (pt_in_lt ha1) S hiX8 hK hP (List.mem_of_getElem? (i := 10) rfl) dX6_fail_10 ?_
  replace h := pt_b1s h; obtain ⟨σ1, e1, h⟩ := h
  refine pt_cVv (As := [.int (σ (9 + a1.toNatClampNeg) 4)]) (rest := []) S (m_X1_giveBack l hDa e1) (cwV 1 S.2.2.2.2 gX6_fail_X1_giveBack rfl rfl rfl (by decide +kernel) ⟨Nat.le_of_ble_eq_true rfl, Nat.le_of_ble_eq_true rfl⟩) hK hP hS hZ 6 1 rfl rfl rfl hl.1 rfl (Nat.le_of_ble_eq_true rfl) dX6_fail_13 ⟨Nat.zero_le _, Nat.zero_le _⟩ (fun H locs hP hS => ?_)
  refine lv_aload_n hx hb dX6_fail_16 rfl (lv_at hl 2 rfl) ?_
  replace h := pt_b1s h; obtain ⟨σ2, e2, h⟩ := h
  refine pt_cVv (As := []) (rest := []) S (m_X8_becomeFree l hDa ha1 e2) (cwV 0 S.2.2.2.2 gX6_fail_X8_becomeFree rfl rfl rfl (by decide +kernel) ⟨Nat.le_of_ble_eq_true rfl, Nat.le_of_ble_eq_true rfl⟩) hK hP hS hZ (9 + a1.toNatClampNeg) 8 (pt_w8 (pt_in_lt ha1) ca ad σ1) rfl rfl hl.1 rfl (Nat.le_of_ble_eq_true rfl) dX6_fail_17 ⟨Nat.zero_le _, Nat.zero_le _⟩ (fun H locs hP hS => ?_)
  refine lv_aload_n hx hb dX6_fail_20 rfl (lv_at hl 1 rfl) ?_
  refine lv_dup hx hb dX6_fail_21 rfl ?_
  refine gf_X6_11 S hiX6 hK hP hf74 dX6_fail_22 ?_
  refine lv_iconst (v := 1) hx hb dX6_fail_25 (by decide) ?_
  refine lv_iadd hx hb dX6_fail_26 ?_
  replace h := pt_dos h; obtain ⟨σ3, e3, h⟩ := h
  refine pf_X6_11 S hiX6 hK hP hDa hS hf74 e3 dX6_fail_27 (fun H locs hP hS => ?_)
  refine lv_aload_n hx hb dX6_fail_30 rfl (lv_at hl 1 rfl) ?_
  refine gf_X6_5 S hiX6 hK hP hf34 dX6_fail_31 ?_
  refine lv_iload_n hx hb dX6_fail_34 rfl (lv_at hl 0 rfl) ?_
  replace h := pt_b2s h; obtain ⟨r4, σ4, e4, h⟩ := h
  refine pt_cVi (As := [.int (σ (9 + a1.toNatClampNeg) 2)]) (rest := []) S (m_X0_has l hDa e4) (cwV 1 S.2.2.2.2 gX6_fail_X0_has rfl rfl rfl (by decide +kernel) ⟨Nat.le_of_ble_eq_true rfl, Nat.le_of_ble_eq_true rfl⟩) hK hP hS hZ 8 0 rfl rfl rfl hl.1 rfl (Nat.le_of_ble_eq_true rfl) dX6_fail_35 ⟨Nat.zero_le _, Nat.zero_le _⟩ (fun H locs hP hS => ?_)
  refine lv_if_eq (tgt := 54) hx hb dX6_fail_38 (by decide) (fun c5 => ?_) (fun c5 => ?_)
  · replace h := pt_ip c5 h
    refine lv_aload_n hx hb dX6_fail_54 rfl (lv_at hl 1 rfl) ?_
    refine gf_X6_5 S hiX6 hK hP hf34 dX6_fail_55 ?_
    refine lv_iload_n hx hb dX6_fail_58 rfl (lv_at hl 0 rfl) ?_
    replace h := pt_b1s h; obtain ⟨σ6, e6, h⟩ := h
    refine pt_cVv (As := [.int (σ (9 + a1.toNatClampNeg) 2)]) (rest := []) S (m_X0_add l hDa e6) (cwV 1 S.2.2.2.2 gX6_fail_X0_add rfl rfl rfl (by decide +kernel) ⟨Nat.le_of_ble_eq_true rfl, Nat.le_of_ble_eq_true rfl⟩) hK hP hS hZ 8 0 rfl rfl rfl hl.1 rfl (Nat.le_of_ble_eq_true rfl) dX6_fail_59 ⟨Nat.zero_le _, Nat.zero_le _⟩ (fun H locs hP hS => ?_)
    exact pt_vret S hr hlk hP hS (congrArg (wC ca ad) (pt_so h)) dX6_fail_62
  · replace h := pt_iN c5 h
    refine lv_aload_n hx hb dX6_fail_41 rfl (lv_at hl 1 rfl) ?_
    refine lv_iload_n hx hb dX6_fail_42 rfl (lv_at hl 0 rfl) ?_
    replace h := pt_dos h; obtain ⟨σ7, e7, h⟩ := h
    refine pf_X6_9 S hiX6 hK hP hDa hS hf68 e7 dX6_fail_43 (fun H locs hP hS => ?_)
    refine lv_aload_n hx hb dX6_fail_46 rfl (lv_at hl 1 rfl) ?_
    refine lv_iload_n hx hb dX6_fail_47 rfl (lv_at hl 3 rfl) ?_
    replace h := pt_dos h; obtain ⟨σ8, e8, h⟩ := h
    refine pf_X6_10 S hiX6 hK hP hDa hS hf71 e8 dX6_fail_48 (fun H locs hP hS => ?_)
    refine lv_goto (tgt := 62) hx hb dX6_fail_51 (by decide) ?_
    exact pt_vret S hr hlk hP hS (congrArg (wC ca ad) (pt_so h)) dX6_fail_62

def f_X6_doWork (σ : pt_St) (a1 : Int32) : Option (Int32 × pt_St) :=
  pt_b2 (f_X0_has σ (σ (9 + a1.toNatClampNeg) 2)) fun r1 σ1 =>
  pt_b2 (f_X3_kindAt σ1 (σ (9 + a1.toNatClampNeg) 2) (σ (9 + a1.toNatClampNeg) 3) r1) fun r2 σ2 =>
  if r2 = (0 : Int32) then
  pt_do (pt_put σ2 (9 + a1.toNatClampNeg) 3 ((σ2 (9 + a1.toNatClampNeg) 3) + (1 : Int32))) fun σ4 =>
  pt_b2 (f_X2_tokensOf σ4 (σ (9 + a1.toNatClampNeg) 2)) fun r5 σ5 =>
  if (σ4 (9 + a1.toNatClampNeg) 3) < r5 then
  some ((1 : Int32), σ5)
  else
  pt_b1 (f_X1_giveBack σ5 (σ5 (9 + a1.toNatClampNeg) 4)) fun σ7 =>
  pt_b1 (f_X8_holdPack σ7 a1) fun σ8 =>
  pt_b2 (f_X6_layPack σ8 a1) fun r9 σ9 =>
  some ((1 : Int32), σ9)
  else
  pt_b1 (f_X6_fail σ2 a1 r2) fun σ10 =>
  some ((1 : Int32), σ10)
set_option maxHeartbeats 4000000 in
set_option maxRecDepth 100000 in
theorem m_X6_doWork (l : Launch) {D : va_G} {A : Nat → Prop} {ca : Nat → ClassId} {ad : Nat → Nat} {z : Nat × Nat} (hDa : ∀ σ, va_D A (wC ca ad σ)) {σ σ' : pt_St} {r : Int32} {a1 : Int32} (ha1 : pt_iw a1) (h : f_X6_doWork σ a1 = some (r, σ')) : Met l yX6_doWork wsX6_doWork { frames := 3, cells := 0, slots := 0, locals := 67 } (va_Pc [.ref (ad 5), .ref (ad (9 + a1.toNatClampNeg))] (pt_Pre D (tysC ca) z A (wC ca ad σ))) (pt_Q (some (.int r)) D (wC ca ad σ') A) 0 0 A := by
  refine Met.ofW (cc := cX6_doWork) (maxL := 4) (ret := (some .boolean)) (by decide) rfl ?_
  intro p e s m args below meth c s₁ B hml hv
  obtain ⟨rfl, hP, hK, hZ⟩ := hv
  have S : CallFix p m c cX6_doWork 4 s ([.ref (ad 5), .ref (ad (9 + a1.toNatClampNeg))] : List Value).toArray wsX6_doWork RX6 := ⟨B.exec, B.bytes, hml, findClass_of_methodNamed B.named, atoms_spec (ws := wsX6_doWork) B.pre⟩
  have hx := S.1
  have hb := S.2.1
  have hr := B.returns
  have hlk := B.notSynchronized
  clear B
  have hiX8 : ∀ w ∈ wsX80, w ∈ wsX6_doWork := fun w h => List.mem_cons_of_mem _ (List.mem_append_left _ (List.mem_append_left _ (List.mem_append_left _ (List.mem_append_left _ (List.mem_append_left _ (List.mem_append_left _ (List.mem_append_right _ h)))))))
  have hiX6 : ∀ w ∈ wsX60, w ∈ wsX6_doWork := fun w h => List.mem_cons_of_mem _ (List.mem_append_left _ (List.mem_append_left _ (List.mem_append_left _ (List.mem_append_left _ (List.mem_append_left _ (List.mem_append_right _ h))))))
  have hiX0 : ∀ w ∈ wsX00, w ∈ wsX6_doWork := fun w h => List.mem_cons_of_mem _ (List.mem_append_left _ (List.mem_append_left _ (List.mem_append_left _ (List.mem_append_left _ (List.mem_append_right _ h)))))
  have hiX3 : ∀ w ∈ wsX30, w ∈ wsX6_doWork := fun w h => List.mem_cons_of_mem _ (List.mem_append_left _ (List.mem_append_left _ (List.mem_append_left _ (List.mem_append_right _ h))))
  have hiX1 : ∀ w ∈ wsX10, w ∈ wsX6_doWork := fun w h => List.mem_cons_of_mem _ (List.mem_append_left _ (List.mem_append_left _ (List.mem_append_right _ h)))
  have hiX2 : ∀ w ∈ wsX20, w ∈ wsX6_doWork := fun w h => List.mem_cons_of_mem _ (List.mem_append_left _ (List.mem_append_right _ h))
  have hiX4 : ∀ w ∈ wsX40, w ∈ wsX6_doWork := fun w h => List.mem_cons_of_mem _ (List.mem_append_right _ h)
  have hf42 : (Cond.fieldLink RX6 42 "PackThreads$Stream" "plants" "LPackThreads$Plants;").before _ s = true := S.2.2.2.2 _ (List.mem_of_getElem? (i := 1) rfl)
  have hf34 : (Cond.fieldLink RX6 34 "PackThreads$Stream" "failed" "LPackThreads$Failed;").before _ s = true := S.2.2.2.2 _ (List.mem_of_getElem? (i := 2) rfl)
  have hf38 : (Cond.fieldLink RX6 38 "PackThreads$Stream" "packs" "LPackThreads$Packs;").before _ s = true := S.2.2.2.2 _ (List.mem_of_getElem? (i := 3) rfl)
  have hf20 : (Cond.fieldLink RX6 20 "PackThreads$Stream" "memory" "LPackThreads$Memory;").before _ s = true := S.2.2.2.2 _ (List.mem_of_getElem? (i := 4) rfl)
  have hS : va_S A s.heap s.heap [] := va_S.rf
  have hl := lv_entry ([.ref (ad 5), .ref (ad (9 + a1.toNatClampNeg))]) (n := 4) (Nat.le_of_ble_eq_true rfl)
  rw [lg_entry_eq]
  generalize (lg_sl ([.ref (ad 5), .ref (ad (9 + a1.toNatClampNeg))]) ++ List.replicate (4 - (lg_sl ([.ref (ad 5), .ref (ad (9 + a1.toNatClampNeg))])).length) Slot.unset).toArray = ls at hl ⊢
  have hl : lv_has ls 4 [(0, .ref (ad 5)), (1, .ref (ad (9 + a1.toNatClampNeg)))] := hl
  unfold f_X6_doWork at h
  refine lv_aload_n hx hb dX6_doWork_0 rfl (lv_at hl 1 rfl) ?_
  refine gfN_X8_2 (pt_in_lt ha1) S hiX8 hK hP (List.mem_of_getElem? (i := 7) rfl) dX6_doWork_1 ?_
  refine lv_istore_n (lv' := [(2, .int (σ (9 + a1.toNatClampNeg) 2)), (0, .ref (ad 5)), (1, .ref (ad (9 + a1.toNatClampNeg)))]) hx hb dX6_doWork_4 rfl hl (by decide) rfl (fun ls hl => ?_)
  refine lv_aload_n hx hb dX6_doWork_5 rfl (lv_at hl 1 rfl) ?_
  refine gf_X6_1 S hiX6 hK hP hf42 dX6_doWork_6 ?_
  refine lv_iload_n hx hb dX6_doWork_9 rfl (lv_at hl 0 rfl) ?_
  refine lv_aload_n hx hb dX6_doWork_10 rfl (lv_at hl 2 rfl) ?_
  refine gfN_X8_3 (pt_in_lt ha1) S hiX8 hK hP (List.mem_of_getElem? (i := 8) rfl) dX6_doWork_11 ?_
  refine lv_aload_n hx hb dX6_doWork_14 rfl (lv_at hl 1 rfl) ?_
  refine gf_X6_5 S hiX6 hK hP hf34 dX6_doWork_15 ?_
  refine lv_iload_n hx hb dX6_doWork_18 rfl (lv_at hl 0 rfl) ?_
  replace h := pt_b2s h; obtain ⟨r1, σ1, e1, h⟩ := h
  refine pt_cVi (As := [.int (σ (9 + a1.toNatClampNeg) 2)]) (rest := [.int (σ (9 + a1.toNatClampNeg) 3), .int (σ (9 + a1.toNatClampNeg) 2), .ref (ad 3)]) S (m_X0_has l hDa e1) (cwV 1 S.2.2.2.2 gX6_doWork_X0_has rfl rfl rfl (by decide +kernel) ⟨Nat.le_of_ble_eq_true rfl, Nat.le_of_ble_eq_true rfl⟩) hK hP hS hZ 8 0 rfl rfl rfl hl.1 rfl (Nat.le_of_ble_eq_true rfl) dX6_doWork_19 ⟨Nat.zero_le _, Nat.zero_le _⟩ (fun H locs hP hS => ?_)
  replace h := pt_b2s h; obtain ⟨r2, σ2, e2, h⟩ := h
  refine pt_cVi (As := [.int (σ (9 + a1.toNatClampNeg) 2), .int (σ (9 + a1.toNatClampNeg) 3), .int r1]) (rest := []) S (m_X3_kindAt l hDa e2) (cwV 3 S.2.2.2.2 gX6_doWork_X3_kindAt rfl rfl rfl (by decide +kernel) ⟨Nat.le_of_ble_eq_true rfl, Nat.le_of_ble_eq_true rfl⟩) hK hP hS hZ 3 3 rfl rfl rfl hl.1 rfl (Nat.le_of_ble_eq_true rfl) dX6_doWork_22 ⟨Nat.zero_le _, Nat.zero_le _⟩ (fun H locs hP hS => ?_)
  refine lv_istore_n (lv' := [(3, .int r2), (2, .int (σ (9 + a1.toNatClampNeg) 2)), (0, .ref (ad 5)), (1, .ref (ad (9 + a1.toNatClampNeg)))]) hx hb dX6_doWork_25 rfl hl (by decide) rfl (fun ls hl => ?_)
  refine lv_iload_n hx hb dX6_doWork_26 rfl (lv_at hl 0 rfl) ?_
  refine lv_if_eq (tgt := 38) hx hb dX6_doWork_27 (by decide) (fun c3 => ?_) (fun c3 => ?_)
  · replace h := pt_ip c3 h
    refine lv_aload_n hx hb dX6_doWork_38 rfl (lv_at hl 3 rfl) ?_
    refine lv_dup hx hb dX6_doWork_39 rfl ?_
    refine gfN_X8_3 (pt_in_lt ha1) S hiX8 hK hP (List.mem_of_getElem? (i := 8) rfl) dX6_doWork_40 ?_
    refine lv_iconst (v := 1) hx hb dX6_doWork_43 (by decide) ?_
    refine lv_iadd hx hb dX6_doWork_44 ?_
    replace h := pt_dos h; obtain ⟨σ4, e4, h⟩ := h
    refine pfN_X8_3 (pt_in_lt ha1) S hiX8 hK hP hDa hS (List.mem_of_getElem? (i := 8) rfl) e4 dX6_doWork_45 (fun H locs hP hS => ?_)
    refine lv_aload_n hx hb dX6_doWork_48 rfl (lv_at hl 3 rfl) ?_
    refine gfN_X8_3 (pt_in_lt ha1) S hiX8 hK hP (List.mem_of_getElem? (i := 8) rfl) dX6_doWork_49 ?_
    refine lv_aload_n hx hb dX6_doWork_52 rfl (lv_at hl 2 rfl) ?_
    refine gf_X6_0 S hiX6 hK hP hf38 dX6_doWork_53 ?_
    refine lv_iload_n hx hb dX6_doWork_56 rfl (lv_at hl 1 rfl) ?_
    replace h := pt_b2s h; obtain ⟨r5, σ5, e5, h⟩ := h
    refine pt_cVi (As := [.int (σ (9 + a1.toNatClampNeg) 2)]) (rest := [.int (σ4 (9 + a1.toNatClampNeg) 3)]) S (m_X2_tokensOf l hDa e5) (cwV 1 S.2.2.2.2 gX6_doWork_X2_tokensOf rfl rfl rfl (by decide +kernel) ⟨Nat.le_of_ble_eq_true rfl, Nat.le_of_ble_eq_true rfl⟩) hK hP hS hZ 4 2 rfl rfl rfl hl.1 rfl (Nat.le_of_ble_eq_true rfl) dX6_doWork_57 ⟨Nat.zero_le _, Nat.zero_le _⟩ (fun H locs hP hS => ?_)
    refine lv_icmp_lt (tgt := 84) hx hb dX6_doWork_60 (by decide) (fun c6 => ?_) (fun c6 => ?_)
    · replace h := pt_ip c6 h
      refine lv_iconst (v := 1) hx hb dX6_doWork_84 (by decide) ?_
      exact pt_zret S hr hlk hP hS (Or.inr rfl) (pt_pr h).1 (congrArg (wC ca ad) (pt_pr h).2) dX6_doWork_85
    · replace h := pt_iN c6 h
      refine lv_aload_n hx hb dX6_doWork_63 rfl (lv_at hl 2 rfl) ?_
      refine gf_X6_3 S hiX6 hK hP hf20 dX6_doWork_64 ?_
      refine lv_aload_n hx hb dX6_doWork_67 rfl (lv_at hl 3 rfl) ?_
      refine gfN_X8_4 (pt_in_lt ha1) S hiX8 hK hP (List.mem_of_getElem? (i := 10) rfl) dX6_doWork_68 ?_
      replace h := pt_b1s h; obtain ⟨σ7, e7, h⟩ := h
      refine pt_cVv (As := [.int (σ5 (9 + a1.toNatClampNeg) 4)]) (rest := []) S (m_X1_giveBack l hDa e7) (cwV 1 S.2.2.2.2 gX6_doWork_X1_giveBack rfl rfl rfl (by decide +kernel) ⟨Nat.le_of_ble_eq_true rfl, Nat.le_of_ble_eq_true rfl⟩) hK hP hS hZ 6 1 rfl rfl rfl hl.1 rfl (Nat.le_of_ble_eq_true rfl) dX6_doWork_71 ⟨Nat.zero_le _, Nat.zero_le _⟩ (fun H locs hP hS => ?_)
      refine lv_aload_n hx hb dX6_doWork_74 rfl (lv_at hl 3 rfl) ?_
      replace h := pt_b1s h; obtain ⟨σ8, e8, h⟩ := h
      refine pt_cVv (As := []) (rest := []) S (m_X8_holdPack l hDa ha1 e8) (cwV 0 S.2.2.2.2 gX6_doWork_X8_holdPack rfl rfl rfl (by decide +kernel) ⟨Nat.le_of_ble_eq_true rfl, Nat.le_of_ble_eq_true rfl⟩) hK hP hS hZ (9 + a1.toNatClampNeg) 8 (pt_w8 (pt_in_lt ha1) ca ad σ7) rfl rfl hl.1 rfl (Nat.le_of_ble_eq_true rfl) dX6_doWork_75 ⟨Nat.zero_le _, Nat.zero_le _⟩ (fun H locs hP hS => ?_)
      refine lv_aload_n hx hb dX6_doWork_78 rfl (lv_at hl 2 rfl) ?_
      refine lv_aload_n hx hb dX6_doWork_79 rfl (lv_at hl 3 rfl) ?_
      replace h := pt_b2s h; obtain ⟨r9, σ9, e9, h⟩ := h
      refine pt_cVi (As := [.ref (ad (9 + a1.toNatClampNeg))]) (rest := []) S (m_X6_layPack l hDa ha1 e9) (cwV 1 S.2.2.2.2 gX6_doWork_X6_layPack rfl rfl rfl (by decide +kernel) ⟨Nat.le_of_ble_eq_true rfl, Nat.le_of_ble_eq_true rfl⟩) hK hP hS hZ 5 6 rfl rfl rfl hl.1 rfl (Nat.le_of_ble_eq_true rfl) dX6_doWork_80 ⟨Nat.zero_le _, Nat.zero_le _⟩ (fun H locs hP hS => ?_)
      refine lv_pop hx hb dX6_doWork_83 rfl ?_
      refine lv_iconst (v := 1) hx hb dX6_doWork_84 (by decide) ?_
      exact pt_zret S hr hlk hP hS (Or.inr rfl) (pt_pr h).1 (congrArg (wC ca ad) (pt_pr h).2) dX6_doWork_85
  · replace h := pt_iN c3 h
    refine lv_aload_n hx hb dX6_doWork_30 rfl (lv_at hl 2 rfl) ?_
    refine lv_aload_n hx hb dX6_doWork_31 rfl (lv_at hl 3 rfl) ?_
    refine lv_iload_n hx hb dX6_doWork_32 rfl (lv_at hl 0 rfl) ?_
    replace h := pt_b1s h; obtain ⟨σ10, e10, h⟩ := h
    refine pt_cVv (As := [.ref (ad (9 + a1.toNatClampNeg)), .int r2]) (rest := []) S (m_X6_fail l hDa ha1 e10) (cwV 2 S.2.2.2.2 gX6_doWork_X6_fail rfl rfl rfl (by decide +kernel) ⟨Nat.le_of_ble_eq_true rfl, Nat.le_of_ble_eq_true rfl⟩) hK hP hS hZ 5 6 rfl rfl rfl hl.1 rfl (Nat.le_of_ble_eq_true rfl) dX6_doWork_33 ⟨Nat.zero_le _, Nat.zero_le _⟩ (fun H locs hP hS => ?_)
    refine lv_iconst (v := 1) hx hb dX6_doWork_36 (by decide) ?_
    exact pt_zret S hr hlk hP hS (Or.inr rfl) (pt_pr h).1 (congrArg (wC ca ad) (pt_pr h).2) dX6_doWork_37

def f_X6_giveTurn (σ : pt_St) (a1 : Int32) : Option (Int32 × pt_St) :=
  pt_b2 (f_X6_worker σ a1) fun r1 σ1 =>
  if pt_iw r1 then
  pt_do (pt_put σ1 5 7 a1) fun σ3 =>
  if (σ3 (9 + r1.toNatClampNeg) 1) = (0 : Int32) then
  pt_b2 (f_X6_doFree σ3 r1) fun r5 σ5 =>
  if r5 = (0 : Int32) then
  if r5 = 0 ∨ r5 = 1 then some (r5, σ5) else none
  else
  pt_do (pt_put σ5 5 12 ((σ5 5 12) + (1 : Int32))) fun σ8 =>
  if r5 = 0 ∨ r5 = 1 then some (r5, σ8) else none
  else
  if (σ3 (9 + r1.toNatClampNeg) 1) = (1 : Int32) then
  some ((0 : Int32), σ3)
  else
  if (σ3 (9 + r1.toNatClampNeg) 1) = (2 : Int32) then
  pt_b2 (f_X6_doWork σ3 r1) fun r13 σ13 =>
  if r13 = (0 : Int32) then
  if r13 = 0 ∨ r13 = 1 then some (r13, σ13) else none
  else
  pt_do (pt_put σ13 5 12 ((σ13 5 12) + (1 : Int32))) fun σ16 =>
  if r13 = 0 ∨ r13 = 1 then some (r13, σ16) else none
  else
  if (σ3 (9 + r1.toNatClampNeg) 1) = (3 : Int32) then
  pt_b2 (f_X6_doHolding σ3 r1) fun r19 σ19 =>
  if r19 = (0 : Int32) then
  if r19 = 0 ∨ r19 = 1 then some (r19, σ19) else none
  else
  pt_do (pt_put σ19 5 12 ((σ19 5 12) + (1 : Int32))) fun σ22 =>
  if r19 = 0 ∨ r19 = 1 then some (r19, σ22) else none
  else
  some ((0 : Int32), σ3)
  else
  some ((0 : Int32), σ1)
set_option maxHeartbeats 4000000 in
set_option maxRecDepth 100000 in
theorem m_X6_giveTurn (l : Launch) {D : va_G} {A : Nat → Prop} {ca : Nat → ClassId} {ad : Nat → Nat} {z : Nat × Nat} (hDa : ∀ σ, va_D A (wC ca ad σ)) {σ σ' : pt_St} {r : Int32} {a1 : Int32} (h : f_X6_giveTurn σ a1 = some (r, σ')) : Met l yX6_giveTurn wsX6_giveTurn { frames := 4, cells := 0, slots := 0, locals := 90 } (va_Pc [.ref (ad 5), .int a1] (pt_Pre D (tysC ca) z A (wC ca ad σ))) (pt_Q (some (.int r)) D (wC ca ad σ') A) 0 0 A := by
  refine Met.ofW (cc := cX6_giveTurn) (maxL := 4) (ret := (some .boolean)) (by decide) rfl ?_
  intro p e s m args below meth c s₁ B hml hv
  obtain ⟨rfl, hP, hK, hZ⟩ := hv
  have S : CallFix p m c cX6_giveTurn 4 s ([.ref (ad 5), .int a1] : List Value).toArray wsX6_giveTurn RX6 := ⟨B.exec, B.bytes, hml, findClass_of_methodNamed B.named, atoms_spec (ws := wsX6_giveTurn) B.pre⟩
  have hx := S.1
  have hb := S.2.1
  have hr := B.returns
  have hlk := B.notSynchronized
  clear B
  have hiX6 : ∀ w ∈ wsX60, w ∈ wsX6_giveTurn := fun w h => List.mem_cons_of_mem _ (List.mem_append_left _ (List.mem_append_left _ (List.mem_append_left _ (List.mem_append_left _ (List.mem_append_left _ (List.mem_append_left _ (List.mem_append_left _ (List.mem_append_left _ (List.mem_append_right _ h)))))))))
  have hiX8 : ∀ w ∈ wsX80, w ∈ wsX6_giveTurn := fun w h => List.mem_cons_of_mem _ (List.mem_append_left _ (List.mem_append_left _ (List.mem_append_left _ (List.mem_append_left _ (List.mem_append_left _ (List.mem_append_left _ (List.mem_append_left _ (List.mem_append_right _ h))))))))
  have hiX4 : ∀ w ∈ wsX40, w ∈ wsX6_giveTurn := fun w h => List.mem_cons_of_mem _ (List.mem_append_left _ (List.mem_append_left _ (List.mem_append_left _ (List.mem_append_left _ (List.mem_append_left _ (List.mem_append_left _ (List.mem_append_right _ h)))))))
  have hiX0 : ∀ w ∈ wsX00, w ∈ wsX6_giveTurn := fun w h => List.mem_cons_of_mem _ (List.mem_append_left _ (List.mem_append_left _ (List.mem_append_left _ (List.mem_append_left _ (List.mem_append_left _ (List.mem_append_right _ h))))))
  have hiX2 : ∀ w ∈ wsX20, w ∈ wsX6_giveTurn := fun w h => List.mem_cons_of_mem _ (List.mem_append_left _ (List.mem_append_left _ (List.mem_append_left _ (List.mem_append_left _ (List.mem_append_right _ h)))))
  have hiX5 : ∀ w ∈ wsX50, w ∈ wsX6_giveTurn := fun w h => List.mem_cons_of_mem _ (List.mem_append_left _ (List.mem_append_left _ (List.mem_append_left _ (List.mem_append_right _ h))))
  have hiX7 : ∀ w ∈ wsX70, w ∈ wsX6_giveTurn := fun w h => List.mem_cons_of_mem _ (List.mem_append_left _ (List.mem_append_left _ (List.mem_append_right _ h)))
  have hiX1 : ∀ w ∈ wsX10, w ∈ wsX6_giveTurn := fun w h => List.mem_cons_of_mem _ (List.mem_append_left _ (List.mem_append_right _ h))
  have hiX3 : ∀ w ∈ wsX30, w ∈ wsX6_giveTurn := fun w h => List.mem_cons_of_mem _ (List.mem_append_right _ h)
  have hf62 : (Cond.fieldLink RX6 62 "PackThreads$Stream" "latest" "I").before _ s = true := S.2.2.2.2 _ (List.mem_of_getElem? (i := 1) rfl)
  have hf77 : (Cond.fieldLink RX6 77 "PackThreads$Stream" "turnsDone" "I").before _ s = true := S.2.2.2.2 _ (List.mem_of_getElem? (i := 2) rfl)
  have hS : va_S A s.heap s.heap [] := va_S.rf
  have hl := lv_entry ([.ref (ad 5), .int a1]) (n := 4) (Nat.le_of_ble_eq_true rfl)
  rw [lg_entry_eq]
  generalize (lg_sl ([.ref (ad 5), .int a1]) ++ List.replicate (4 - (lg_sl ([.ref (ad 5), .int a1])).length) Slot.unset).toArray = ls at hl ⊢
  have hl : lv_has ls 4 [(0, .ref (ad 5)), (1, .int a1)] := hl
  unfold f_X6_giveTurn at h
  refine lv_aload_n hx hb dX6_giveTurn_0 rfl (lv_at hl 0 rfl) ?_
  refine lv_iload_n hx hb dX6_giveTurn_1 rfl (lv_at hl 1 rfl) ?_
  replace h := pt_b2s h; obtain ⟨r1, σ1, e1, h⟩ := h
  refine pt_cVo (As := [.int a1]) (rest := []) S (m_X6_worker l hDa e1) (cwV 1 S.2.2.2.2 gX6_giveTurn_X6_worker rfl rfl rfl (by decide +kernel) ⟨Nat.le_of_ble_eq_true rfl, Nat.le_of_ble_eq_true rfl⟩) hK hP hS hZ 5 6 rfl rfl rfl hl.1 rfl (Nat.le_of_ble_eq_true rfl) dX6_giveTurn_2 ⟨Nat.zero_le _, Nat.zero_le _⟩ (fun H locs hP hS => ?_)
  by_cases c2 : pt_iw r1
  · replace h := pt_ip c2 h
    refine pt_fkW c2 ?_
    refine lv_astore_n (lv' := [(2, .ref (ad (9 + r1.toNatClampNeg))), (0, .ref (ad 5)), (1, .int a1)]) hx hb dX6_giveTurn_5 rfl hl (by decide) rfl (fun ls hl => ?_)
    refine lv_aload_n hx hb dX6_giveTurn_6 rfl (lv_at hl 0 rfl) ?_
    refine lv_ifnonnull (tgt := 12) hx hb dX6_giveTurn_7 (by decide) ?_
    refine lv_aload_n hx hb dX6_giveTurn_12 rfl (lv_at hl 1 rfl) ?_
    refine lv_iload_n hx hb dX6_giveTurn_13 rfl (lv_at hl 2 rfl) ?_
    replace h := pt_dos h; obtain ⟨σ3, e3, h⟩ := h
    refine pf_X6_7 S hiX6 hK hP hDa hS hf62 e3 dX6_giveTurn_14 (fun H locs hP hS => ?_)
    refine lv_iconst (v := 0) hx hb dX6_giveTurn_17 (by decide) ?_
    refine lv_istore_n (lv' := [(3, .int (0 : Int32)), (2, .ref (ad (9 + r1.toNatClampNeg))), (0, .ref (ad 5)), (1, .int a1)]) hx hb dX6_giveTurn_18 rfl hl (by decide) rfl (fun ls hl => ?_)
    refine lv_aload_n hx hb dX6_giveTurn_19 rfl (lv_at hl 1 rfl) ?_
    refine gfN_X8_1 (pt_in_lt c2) S hiX8 hK hP (List.mem_of_getElem? (i := 6) rfl) dX6_giveTurn_20 ?_
    by_cases c4 : (σ3 (9 + r1.toNatClampNeg) 1) = (0 : Int32)
    · replace h := pt_ip c4 h
      refine lv_tableIn (off := 29) (tgt := 52) hx hb dX6_giveTurn_23 (by rw [c4]; decide) (by rw [c4]; decide) (by rw [c4]; rfl) (by decide) ?_
      refine lv_aload_n hx hb dX6_giveTurn_52 rfl (lv_at hl 2 rfl) ?_
      refine lv_aload_n hx hb dX6_giveTurn_53 rfl (lv_at hl 1 rfl) ?_
      replace h := pt_b2s h; obtain ⟨r5, σ5, e5, h⟩ := h
      refine pt_cVi (As := [.ref (ad (9 + r1.toNatClampNeg))]) (rest := []) S (m_X6_doFree l hDa c2 e5) (cwV 1 S.2.2.2.2 gX6_giveTurn_X6_doFree rfl rfl rfl (by decide +kernel) ⟨Nat.le_of_ble_eq_true rfl, Nat.le_of_ble_eq_true rfl⟩) hK hP hS hZ 5 6 rfl rfl rfl hl.1 rfl (Nat.le_of_ble_eq_true rfl) dX6_giveTurn_54 ⟨Nat.zero_le _, Nat.zero_le _⟩ (fun H locs hP hS => ?_)
      refine lv_istore_n (lv' := [(3, .int r5), (2, .ref (ad (9 + r1.toNatClampNeg))), (0, .ref (ad 5)), (1, .int a1)]) hx hb dX6_giveTurn_57 rfl hl (by decide) rfl (fun ls hl => ?_)
      refine lv_goto (tgt := 79) hx hb dX6_giveTurn_58 (by decide) ?_
      refine lv_iload_n hx hb dX6_giveTurn_79 rfl (lv_at hl 0 rfl) ?_
      refine lv_if_eq (tgt := 93) hx hb dX6_giveTurn_80 (by decide) (fun c6 => ?_) (fun c6 => ?_)
      · replace h := pt_ip c6 h
        refine lv_iload_n hx hb dX6_giveTurn_93 rfl (lv_at hl 0 rfl) ?_
        replace h := pt_gd h; obtain ⟨g7, h⟩ := h
        exact pt_zret S hr hlk hP hS g7 (pt_pr h).1 (congrArg (wC ca ad) (pt_pr h).2) dX6_giveTurn_94
      · replace h := pt_iN c6 h
        refine lv_aload_n hx hb dX6_giveTurn_83 rfl (lv_at hl 2 rfl) ?_
        refine lv_dup hx hb dX6_giveTurn_84 rfl ?_
        refine gf_X6_12 S hiX6 hK hP hf77 dX6_giveTurn_85 ?_
        refine lv_iconst (v := 1) hx hb dX6_giveTurn_88 (by decide) ?_
        refine lv_iadd hx hb dX6_giveTurn_89 ?_
        replace h := pt_dos h; obtain ⟨σ8, e8, h⟩ := h
        refine pf_X6_12 S hiX6 hK hP hDa hS hf77 e8 dX6_giveTurn_90 (fun H locs hP hS => ?_)
        refine lv_iload_n hx hb dX6_giveTurn_93 rfl (lv_at hl 0 rfl) ?_
        replace h := pt_gd h; obtain ⟨g9, h⟩ := h
        exact pt_zret S hr hlk hP hS g9 (pt_pr h).1 (congrArg (wC ca ad) (pt_pr h).2) dX6_giveTurn_94
    · replace h := pt_iN c4 h
      by_cases c10 : (σ3 (9 + r1.toNatClampNeg) 1) = (1 : Int32)
      · replace h := pt_ip c10 h
        refine lv_tableIn (off := 56) (tgt := 79) hx hb dX6_giveTurn_23 (by rw [c10]; decide) (by rw [c10]; decide) (by rw [c10]; rfl) (by decide) ?_
        refine lv_iload_n hx hb dX6_giveTurn_79 rfl (lv_at hl 0 rfl) ?_
        refine lv_if_eq (tgt := 93) hx hb dX6_giveTurn_80 (by decide) (fun c11 => ?_) (fun c11 => ?_)
        · refine lv_iload_n hx hb dX6_giveTurn_93 rfl (lv_at hl 0 rfl) ?_
          exact pt_zret S hr hlk hP hS (Or.inl rfl) (pt_pr h).1 (congrArg (wC ca ad) (pt_pr h).2) dX6_giveTurn_94
        · exact absurd (by decide) c11
      · replace h := pt_iN c10 h
        by_cases c12 : (σ3 (9 + r1.toNatClampNeg) 1) = (2 : Int32)
        · replace h := pt_ip c12 h
          refine lv_tableIn (off := 38) (tgt := 61) hx hb dX6_giveTurn_23 (by rw [c12]; decide) (by rw [c12]; decide) (by rw [c12]; rfl) (by decide) ?_
          refine lv_aload_n hx hb dX6_giveTurn_61 rfl (lv_at hl 2 rfl) ?_
          refine lv_aload_n hx hb dX6_giveTurn_62 rfl (lv_at hl 1 rfl) ?_
          replace h := pt_b2s h; obtain ⟨r13, σ13, e13, h⟩ := h
          refine pt_cVi (As := [.ref (ad (9 + r1.toNatClampNeg))]) (rest := []) S (m_X6_doWork l hDa c2 e13) (cwV 1 S.2.2.2.2 gX6_giveTurn_X6_doWork rfl rfl rfl (by decide +kernel) ⟨Nat.le_of_ble_eq_true rfl, Nat.le_of_ble_eq_true rfl⟩) hK hP hS hZ 5 6 rfl rfl rfl hl.1 rfl (Nat.le_of_ble_eq_true rfl) dX6_giveTurn_63 ⟨Nat.zero_le _, Nat.zero_le _⟩ (fun H locs hP hS => ?_)
          refine lv_istore_n (lv' := [(3, .int r13), (2, .ref (ad (9 + r1.toNatClampNeg))), (0, .ref (ad 5)), (1, .int a1)]) hx hb dX6_giveTurn_66 rfl hl (by decide) rfl (fun ls hl => ?_)
          refine lv_goto (tgt := 79) hx hb dX6_giveTurn_67 (by decide) ?_
          refine lv_iload_n hx hb dX6_giveTurn_79 rfl (lv_at hl 0 rfl) ?_
          refine lv_if_eq (tgt := 93) hx hb dX6_giveTurn_80 (by decide) (fun c14 => ?_) (fun c14 => ?_)
          · replace h := pt_ip c14 h
            refine lv_iload_n hx hb dX6_giveTurn_93 rfl (lv_at hl 0 rfl) ?_
            replace h := pt_gd h; obtain ⟨g15, h⟩ := h
            exact pt_zret S hr hlk hP hS g15 (pt_pr h).1 (congrArg (wC ca ad) (pt_pr h).2) dX6_giveTurn_94
          · replace h := pt_iN c14 h
            refine lv_aload_n hx hb dX6_giveTurn_83 rfl (lv_at hl 2 rfl) ?_
            refine lv_dup hx hb dX6_giveTurn_84 rfl ?_
            refine gf_X6_12 S hiX6 hK hP hf77 dX6_giveTurn_85 ?_
            refine lv_iconst (v := 1) hx hb dX6_giveTurn_88 (by decide) ?_
            refine lv_iadd hx hb dX6_giveTurn_89 ?_
            replace h := pt_dos h; obtain ⟨σ16, e16, h⟩ := h
            refine pf_X6_12 S hiX6 hK hP hDa hS hf77 e16 dX6_giveTurn_90 (fun H locs hP hS => ?_)
            refine lv_iload_n hx hb dX6_giveTurn_93 rfl (lv_at hl 0 rfl) ?_
            replace h := pt_gd h; obtain ⟨g17, h⟩ := h
            exact pt_zret S hr hlk hP hS g17 (pt_pr h).1 (congrArg (wC ca ad) (pt_pr h).2) dX6_giveTurn_94
        · replace h := pt_iN c12 h
          by_cases c18 : (σ3 (9 + r1.toNatClampNeg) 1) = (3 : Int32)
          · replace h := pt_ip c18 h
            refine lv_tableIn (off := 47) (tgt := 70) hx hb dX6_giveTurn_23 (by rw [c18]; decide) (by rw [c18]; decide) (by rw [c18]; rfl) (by decide) ?_
            refine lv_aload_n hx hb dX6_giveTurn_70 rfl (lv_at hl 2 rfl) ?_
            refine lv_aload_n hx hb dX6_giveTurn_71 rfl (lv_at hl 1 rfl) ?_
            replace h := pt_b2s h; obtain ⟨r19, σ19, e19, h⟩ := h
            refine pt_cVi (As := [.ref (ad (9 + r1.toNatClampNeg))]) (rest := []) S (m_X6_doHolding l hDa c2 e19) (cwV 1 S.2.2.2.2 gX6_giveTurn_X6_doHolding rfl rfl rfl (by decide +kernel) ⟨Nat.le_of_ble_eq_true rfl, Nat.le_of_ble_eq_true rfl⟩) hK hP hS hZ 5 6 rfl rfl rfl hl.1 rfl (Nat.le_of_ble_eq_true rfl) dX6_giveTurn_72 ⟨Nat.zero_le _, Nat.zero_le _⟩ (fun H locs hP hS => ?_)
            refine lv_istore_n (lv' := [(3, .int r19), (2, .ref (ad (9 + r1.toNatClampNeg))), (0, .ref (ad 5)), (1, .int a1)]) hx hb dX6_giveTurn_75 rfl hl (by decide) rfl (fun ls hl => ?_)
            refine lv_goto (tgt := 79) hx hb dX6_giveTurn_76 (by decide) ?_
            refine lv_iload_n hx hb dX6_giveTurn_79 rfl (lv_at hl 0 rfl) ?_
            refine lv_if_eq (tgt := 93) hx hb dX6_giveTurn_80 (by decide) (fun c20 => ?_) (fun c20 => ?_)
            · replace h := pt_ip c20 h
              refine lv_iload_n hx hb dX6_giveTurn_93 rfl (lv_at hl 0 rfl) ?_
              replace h := pt_gd h; obtain ⟨g21, h⟩ := h
              exact pt_zret S hr hlk hP hS g21 (pt_pr h).1 (congrArg (wC ca ad) (pt_pr h).2) dX6_giveTurn_94
            · replace h := pt_iN c20 h
              refine lv_aload_n hx hb dX6_giveTurn_83 rfl (lv_at hl 2 rfl) ?_
              refine lv_dup hx hb dX6_giveTurn_84 rfl ?_
              refine gf_X6_12 S hiX6 hK hP hf77 dX6_giveTurn_85 ?_
              refine lv_iconst (v := 1) hx hb dX6_giveTurn_88 (by decide) ?_
              refine lv_iadd hx hb dX6_giveTurn_89 ?_
              replace h := pt_dos h; obtain ⟨σ22, e22, h⟩ := h
              refine pf_X6_12 S hiX6 hK hP hDa hS hf77 e22 dX6_giveTurn_90 (fun H locs hP hS => ?_)
              refine lv_iload_n hx hb dX6_giveTurn_93 rfl (lv_at hl 0 rfl) ?_
              replace h := pt_gd h; obtain ⟨g23, h⟩ := h
              exact pt_zret S hr hlk hP hS g23 (pt_pr h).1 (congrArg (wC ca ad) (pt_pr h).2) dX6_giveTurn_94
          · replace h := pt_iN c18 h
            refine lv_tableOut (tgt := 79) hx hb dX6_giveTurn_23 (by have q0 := lv_neT c4 (a := 0) (by decide); have q1 := lv_neT c10 (a := 1) (by decide); have q2 := lv_neT c12 (a := 2) (by decide); have q3 := lv_neT c18 (a := 3) (by decide); omega) (by decide) ?_
            refine lv_iload_n hx hb dX6_giveTurn_79 rfl (lv_at hl 0 rfl) ?_
            refine lv_if_eq (tgt := 93) hx hb dX6_giveTurn_80 (by decide) (fun c24 => ?_) (fun c24 => ?_)
            · refine lv_iload_n hx hb dX6_giveTurn_93 rfl (lv_at hl 0 rfl) ?_
              exact pt_zret S hr hlk hP hS (Or.inl rfl) (pt_pr h).1 (congrArg (wC ca ad) (pt_pr h).2) dX6_giveTurn_94
            · exact absurd (by decide) c24
  · replace h := pt_iN c2 h
    refine pt_fkN c2 ?_
    refine lv_astore_nN (lv' := [(2, .null), (0, .ref (ad 5)), (1, .int a1)]) hx hb dX6_giveTurn_5 rfl hl (by decide) rfl (fun ls hl => ?_)
    refine lv_aload_nN hx hb dX6_giveTurn_6 rfl (lv_at hl 0 rfl) ?_
    refine lv_ifnonnullN hx hb dX6_giveTurn_7 ?_
    refine lv_iconst (v := 0) hx hb dX6_giveTurn_10 (by decide) ?_
    exact pt_zret S hr hlk hP hS (Or.inl rfl) (pt_pr h).1 (congrArg (wC ca ad) (pt_pr h).2) dX6_giveTurn_11

def lp_X6_giveTurnsInRing_4 (k : pt_St → Int32 → Int32 → Option (Int32 × pt_St)) (a1 : Int32) : Nat → pt_St → Int32 → Int32 → Option (Int32 × pt_St)
  | 0, _, _, _ => none
  | n + 1, σ, x2, x3 =>
    if a1 ≤ x3 then
    k σ x2 x3
    else
    pt_b2 (f_X6_allEnded σ) fun r5002 σ5002 =>
    if r5002 = (0 : Int32) then
    if (σ5002 5 6) ≤ ((σ5002 5 7) + (1 : Int32)) then
    pt_b2 (f_X6_giveTurn σ5002 (0 : Int32)) fun r5005 σ5005 =>
    if r5005 = (0 : Int32) then
    lp_X6_giveTurnsInRing_4 k a1 n σ5005 x2 (x3 + (1 : Int32))
    else
    lp_X6_giveTurnsInRing_4 k a1 n σ5005 (x2 + (1 : Int32)) (x3 + (1 : Int32))
    else
    pt_b2 (f_X6_giveTurn σ5002 ((σ5002 5 7) + (1 : Int32))) fun r5007 σ5007 =>
    if r5007 = (0 : Int32) then
    lp_X6_giveTurnsInRing_4 k a1 n σ5007 x2 (x3 + (1 : Int32))
    else
    lp_X6_giveTurnsInRing_4 k a1 n σ5007 (x2 + (1 : Int32)) (x3 + (1 : Int32))
    else
    k σ5002 x2 x3
def kx_X6_giveTurnsInRing_4 (a1 : Int32) (σ : pt_St) (x2 : Int32) (x3 : Int32) : Option (Int32 × pt_St) :=
  some (x2, σ)
def f_X6_giveTurnsInRing (σ : pt_St) (a1 : Int32) : Option (Int32 × pt_St) :=
  lp_X6_giveTurnsInRing_4 (kx_X6_giveTurnsInRing_4 a1) a1 pt_F σ (0 : Int32) (0 : Int32)
set_option maxHeartbeats 4000000 in
set_option maxRecDepth 100000 in
theorem m_X6_giveTurnsInRing (l : Launch) {D : va_G} {A : Nat → Prop} {ca : Nat → ClassId} {ad : Nat → Nat} {z : Nat × Nat} (hDa : ∀ σ, va_D A (wC ca ad σ)) {σ σ' : pt_St} {r : Int32} {a1 : Int32} (h : f_X6_giveTurnsInRing σ a1 = some (r, σ')) : Met l yX6_giveTurnsInRing wsX6_giveTurnsInRing { frames := 5, cells := 0, slots := 0, locals := 113 } (va_Pc [.ref (ad 5), .int a1] (pt_Pre D (tysC ca) z A (wC ca ad σ))) (pt_Q (some (.int r)) D (wC ca ad σ') A) 0 0 A := by
  refine Met.ofW (cc := cX6_giveTurnsInRing) (maxL := 5) (ret := (some .int)) (by decide) rfl ?_
  intro p e s m args below meth c s₁ B hml hv
  obtain ⟨rfl, hP, hK, hZ⟩ := hv
  have S : CallFix p m c cX6_giveTurnsInRing 5 s ([.ref (ad 5), .int a1] : List Value).toArray wsX6_giveTurnsInRing RX6 := ⟨B.exec, B.bytes, hml, findClass_of_methodNamed B.named, atoms_spec (ws := wsX6_giveTurnsInRing) B.pre⟩
  have hx := S.1
  have hb := S.2.1
  have hr := B.returns
  have hlk := B.notSynchronized
  clear B
  have hiX6 : ∀ w ∈ wsX60, w ∈ wsX6_giveTurnsInRing := fun w h => List.mem_cons_of_mem _ (List.mem_append_left _ (List.mem_append_left _ (List.mem_append_left _ (List.mem_append_left _ (List.mem_append_left _ (List.mem_append_left _ (List.mem_append_left _ (List.mem_append_left _ (List.mem_append_right _ h)))))))))
  have hiX8 : ∀ w ∈ wsX80, w ∈ wsX6_giveTurnsInRing := fun w h => List.mem_cons_of_mem _ (List.mem_append_left _ (List.mem_append_left _ (List.mem_append_left _ (List.mem_append_left _ (List.mem_append_left _ (List.mem_append_left _ (List.mem_append_left _ (List.mem_append_right _ h))))))))
  have hiX4 : ∀ w ∈ wsX40, w ∈ wsX6_giveTurnsInRing := fun w h => List.mem_cons_of_mem _ (List.mem_append_left _ (List.mem_append_left _ (List.mem_append_left _ (List.mem_append_left _ (List.mem_append_left _ (List.mem_append_left _ (List.mem_append_right _ h)))))))
  have hiX0 : ∀ w ∈ wsX00, w ∈ wsX6_giveTurnsInRing := fun w h => List.mem_cons_of_mem _ (List.mem_append_left _ (List.mem_append_left _ (List.mem_append_left _ (List.mem_append_left _ (List.mem_append_left _ (List.mem_append_right _ h))))))
  have hiX2 : ∀ w ∈ wsX20, w ∈ wsX6_giveTurnsInRing := fun w h => List.mem_cons_of_mem _ (List.mem_append_left _ (List.mem_append_left _ (List.mem_append_left _ (List.mem_append_left _ (List.mem_append_right _ h)))))
  have hiX5 : ∀ w ∈ wsX50, w ∈ wsX6_giveTurnsInRing := fun w h => List.mem_cons_of_mem _ (List.mem_append_left _ (List.mem_append_left _ (List.mem_append_left _ (List.mem_append_right _ h))))
  have hiX7 : ∀ w ∈ wsX70, w ∈ wsX6_giveTurnsInRing := fun w h => List.mem_cons_of_mem _ (List.mem_append_left _ (List.mem_append_left _ (List.mem_append_right _ h)))
  have hiX1 : ∀ w ∈ wsX10, w ∈ wsX6_giveTurnsInRing := fun w h => List.mem_cons_of_mem _ (List.mem_append_left _ (List.mem_append_right _ h))
  have hiX3 : ∀ w ∈ wsX30, w ∈ wsX6_giveTurnsInRing := fun w h => List.mem_cons_of_mem _ (List.mem_append_right _ h)
  have hf62 : (Cond.fieldLink RX6 62 "PackThreads$Stream" "latest" "I").before _ s = true := S.2.2.2.2 _ (List.mem_of_getElem? (i := 1) rfl)
  have hf49 : (Cond.fieldLink RX6 49 "PackThreads$Stream" "threads" "I").before _ s = true := S.2.2.2.2 _ (List.mem_of_getElem? (i := 2) rfl)
  have hS : va_S A s.heap s.heap [] := va_S.rf
  have hl := lv_entry ([.ref (ad 5), .int a1]) (n := 5) (Nat.le_of_ble_eq_true rfl)
  rw [lg_entry_eq]
  generalize (lg_sl ([.ref (ad 5), .int a1]) ++ List.replicate (5 - (lg_sl ([.ref (ad 5), .int a1])).length) Slot.unset).toArray = ls at hl ⊢
  have hl : lv_has ls 5 [(0, .ref (ad 5)), (1, .int a1)] := hl
  unfold f_X6_giveTurnsInRing at h
  refine lv_iconst (v := 0) hx hb dX6_giveTurnsInRing_0 (by decide) ?_
  refine lv_istore_n (lv' := [(2, .int (0 : Int32)), (0, .ref (ad 5)), (1, .int a1)]) hx hb dX6_giveTurnsInRing_1 rfl hl (by decide) rfl (fun ls hl => ?_)
  refine lv_iconst (v := 0) hx hb dX6_giveTurnsInRing_2 (by decide) ?_
  refine lv_istore_n (lv' := [(3, .int (0 : Int32)), (2, .int (0 : Int32)), (0, .ref (ad 5)), (1, .int a1)]) hx hb dX6_giveTurnsInRing_3 rfl hl (by decide) rfl (fun ls hl => ?_)
  have X4 : ∀ (σ : pt_St) (x2 : Int32) (x3 : Int32), kx_X6_giveTurnsInRing_4 a1 σ x2 x3 = some (r, σ') → ∀ (H : Heap) (locs : List Loc) (ls : Array Slot), va_P D vwCl (wC ca ad σ) H → va_S A s.heap H locs → lv_has ls 5 [(0, .ref (ad 5)), (1, .int a1), (2, .int x2), (3, .int x3)] → W p l e (headSpec wsX6_giveTurnsInRing { frames := 5, cells := 0, slots := 0, locals := 113 }).room s m ([.ref (ad 5), .int a1] : List Value).toArray below meth c H locs 0 0 (MQ below (pt_Q (some (.int r)) D (wC ca ad σ') A) ([.ref (ad 5), .int a1] : List Value).toArray s 0 0 A) (F0 m 59 ls []) := by
    intro σ x2 x3 h H locs ls hP hS hl
    unfold kx_X6_giveTurnsInRing_4 at h
    refine lv_iload_n hx hb dX6_giveTurnsInRing_59 rfl (lv_at hl 2 rfl) ?_
    exact pt_iret S hr hlk hP hS (pt_pr h).1 (congrArg (wC ca ad) (pt_pr h).2) dX6_giveTurnsInRing_60
  have L4 : ∀ (n : Nat) (σ : pt_St) (x2 : Int32) (x3 : Int32),  lp_X6_giveTurnsInRing_4 (kx_X6_giveTurnsInRing_4 a1) a1 n σ x2 x3 = some (r, σ') → ∀ (H : Heap) (locs : List Loc) (ls : Array Slot), va_P D vwCl (wC ca ad σ) H → va_S A s.heap H locs → lv_has ls 5 [(0, .ref (ad 5)), (1, .int a1), (2, .int x2), (3, .int x3)] → W p l e (headSpec wsX6_giveTurnsInRing { frames := 5, cells := 0, slots := 0, locals := 113 }).room s m ([.ref (ad 5), .int a1] : List Value).toArray below meth c H locs 0 0 (MQ below (pt_Q (some (.int r)) D (wC ca ad σ') A) ([.ref (ad 5), .int a1] : List Value).toArray s 0 0 A) (F0 m 4 ls []) := by
    intro n
    induction n with
    | zero => intro σ x2 x3 h; cases h
    | succ n ih0 =>
      intro σ x2 x3 h H locs ls hP hS hl
      rw [lp_X6_giveTurnsInRing_4] at h
      refine lv_iload_n hx hb dX6_giveTurnsInRing_4 rfl (lv_at hl 3 rfl) ?_
      refine lv_iload_n hx hb dX6_giveTurnsInRing_5 rfl (lv_at hl 1 rfl) ?_
      refine lv_icmp_ge (tgt := 59) hx hb dX6_giveTurnsInRing_6 (by decide) (fun c5001 => ?_) (fun c5001 => ?_)
      · replace h := pt_ip c5001 h
        exact X4 _ _ _ h _ _ _ hP hS (lv_sub hl [0, 1, 2, 3] rfl)
      · replace h := pt_iN c5001 h
        refine lv_aload_n hx hb dX6_giveTurnsInRing_9 rfl (lv_at hl 0 rfl) ?_
        replace h := pt_b2s h; obtain ⟨r5002, σ5002, e5002, h⟩ := h
        refine pt_cVi (As := []) (rest := []) S (m_X6_allEnded l hDa e5002) (cwV 0 S.2.2.2.2 gX6_giveTurnsInRing_X6_allEnded rfl rfl rfl (by decide +kernel) ⟨Nat.le_of_ble_eq_true rfl, Nat.le_of_ble_eq_true rfl⟩) hK hP hS hZ 5 6 rfl rfl rfl hl.1 rfl (Nat.le_of_ble_eq_true rfl) dX6_giveTurnsInRing_10 ⟨Nat.zero_le _, Nat.zero_le _⟩ (fun H locs hP hS => ?_)
        refine lv_if_ne (tgt := 59) hx hb dX6_giveTurnsInRing_13 (by decide) (fun c5003 => ?_) (fun c5003 => ?_)
        · replace h := pt_iN c5003 h
          exact X4 _ _ _ h _ _ _ hP hS (lv_sub hl [0, 1, 2, 3] rfl)
        · replace h := pt_ip c5003 h
          refine lv_aload_n hx hb dX6_giveTurnsInRing_16 rfl (lv_at hl 0 rfl) ?_
          refine gf_X6_7 S hiX6 hK hP hf62 dX6_giveTurnsInRing_17 ?_
          refine lv_iconst (v := 1) hx hb dX6_giveTurnsInRing_20 (by decide) ?_
          refine lv_iadd hx hb dX6_giveTurnsInRing_21 ?_
          refine lv_aload_n hx hb dX6_giveTurnsInRing_22 rfl (lv_at hl 0 rfl) ?_
          refine gf_X6_6 S hiX6 hK hP hf49 dX6_giveTurnsInRing_23 ?_
          refine lv_icmp_ge (tgt := 38) hx hb dX6_giveTurnsInRing_26 (by decide) (fun c5004 => ?_) (fun c5004 => ?_)
          · replace h := pt_ip c5004 h
            refine lv_iconst (v := 0) hx hb dX6_giveTurnsInRing_38 (by decide) ?_
            refine lv_istore (lv' := [(4, .int (0 : Int32)), (0, .ref (ad 5)), (1, .int a1), (2, .int x2), (3, .int x3)]) hx hb dX6_giveTurnsInRing_39 hl (by decide) rfl (fun ls hl => ?_)
            refine lv_aload_n hx hb dX6_giveTurnsInRing_41 rfl (lv_at hl 1 rfl) ?_
            refine lv_iload hx hb dX6_giveTurnsInRing_42 (lv_at hl 0 rfl) ?_
            replace h := pt_b2s h; obtain ⟨r5005, σ5005, e5005, h⟩ := h
            refine pt_cVi (As := [.int (0 : Int32)]) (rest := []) S (m_X6_giveTurn l hDa e5005) (cwV 1 S.2.2.2.2 gX6_giveTurnsInRing_X6_giveTurn rfl rfl rfl (by decide +kernel) ⟨Nat.le_of_ble_eq_true rfl, Nat.le_of_ble_eq_true rfl⟩) hK hP hS hZ 5 6 rfl rfl rfl hl.1 rfl (Nat.le_of_ble_eq_true rfl) dX6_giveTurnsInRing_44 ⟨Nat.zero_le _, Nat.zero_le _⟩ (fun H locs hP hS => ?_)
            refine lv_if_eq (tgt := 53) hx hb dX6_giveTurnsInRing_47 (by decide) (fun c5006 => ?_) (fun c5006 => ?_)
            · replace h := pt_ip c5006 h
              refine lv_iinc (v := x3 + (1 : Int32)) (lv' := [(3, .int (x3 + (1 : Int32))), (4, .int (0 : Int32)), (0, .ref (ad 5)), (1, .int a1), (2, .int x2)]) hx hb dX6_giveTurnsInRing_53 hl (k := 4) rfl rfl (by decide) rfl (fun ls hl => ?_)
              refine lv_goto (tgt := 4) hx hb dX6_giveTurnsInRing_56 (by decide) ?_
              exact ih0 _ _ _ h _ _ _ hP hS (lv_sub hl [2, 3, 4, 0] rfl)
            · replace h := pt_iN c5006 h
              refine lv_iinc (v := x2 + (1 : Int32)) (lv' := [(2, .int (x2 + (1 : Int32))), (4, .int (0 : Int32)), (0, .ref (ad 5)), (1, .int a1), (3, .int x3)]) hx hb dX6_giveTurnsInRing_50 hl (k := 3) rfl rfl (by decide) rfl (fun ls hl => ?_)
              refine lv_iinc (v := x3 + (1 : Int32)) (lv' := [(3, .int (x3 + (1 : Int32))), (2, .int (x2 + (1 : Int32))), (4, .int (0 : Int32)), (0, .ref (ad 5)), (1, .int a1)]) hx hb dX6_giveTurnsInRing_53 hl (k := 4) rfl rfl (by decide) rfl (fun ls hl => ?_)
              refine lv_goto (tgt := 4) hx hb dX6_giveTurnsInRing_56 (by decide) ?_
              exact ih0 _ _ _ h _ _ _ hP hS (lv_sub hl [3, 4, 1, 0] rfl)
          · replace h := pt_iN c5004 h
            refine lv_aload_n hx hb dX6_giveTurnsInRing_29 rfl (lv_at hl 0 rfl) ?_
            refine gf_X6_7 S hiX6 hK hP hf62 dX6_giveTurnsInRing_30 ?_
            refine lv_iconst (v := 1) hx hb dX6_giveTurnsInRing_33 (by decide) ?_
            refine lv_iadd hx hb dX6_giveTurnsInRing_34 ?_
            refine lv_goto (tgt := 39) hx hb dX6_giveTurnsInRing_35 (by decide) ?_
            refine lv_istore (lv' := [(4, .int ((σ5002 5 7) + (1 : Int32))), (0, .ref (ad 5)), (1, .int a1), (2, .int x2), (3, .int x3)]) hx hb dX6_giveTurnsInRing_39 hl (by decide) rfl (fun ls hl => ?_)
            refine lv_aload_n hx hb dX6_giveTurnsInRing_41 rfl (lv_at hl 1 rfl) ?_
            refine lv_iload hx hb dX6_giveTurnsInRing_42 (lv_at hl 0 rfl) ?_
            replace h := pt_b2s h; obtain ⟨r5007, σ5007, e5007, h⟩ := h
            refine pt_cVi (As := [.int ((σ5002 5 7) + (1 : Int32))]) (rest := []) S (m_X6_giveTurn l hDa e5007) (cwV 1 S.2.2.2.2 gX6_giveTurnsInRing_X6_giveTurn rfl rfl rfl (by decide +kernel) ⟨Nat.le_of_ble_eq_true rfl, Nat.le_of_ble_eq_true rfl⟩) hK hP hS hZ 5 6 rfl rfl rfl hl.1 rfl (Nat.le_of_ble_eq_true rfl) dX6_giveTurnsInRing_44 ⟨Nat.zero_le _, Nat.zero_le _⟩ (fun H locs hP hS => ?_)
            refine lv_if_eq (tgt := 53) hx hb dX6_giveTurnsInRing_47 (by decide) (fun c5008 => ?_) (fun c5008 => ?_)
            · replace h := pt_ip c5008 h
              refine lv_iinc (v := x3 + (1 : Int32)) (lv' := [(3, .int (x3 + (1 : Int32))), (4, .int ((σ5002 5 7) + (1 : Int32))), (0, .ref (ad 5)), (1, .int a1), (2, .int x2)]) hx hb dX6_giveTurnsInRing_53 hl (k := 4) rfl rfl (by decide) rfl (fun ls hl => ?_)
              refine lv_goto (tgt := 4) hx hb dX6_giveTurnsInRing_56 (by decide) ?_
              exact ih0 _ _ _ h _ _ _ hP hS (lv_sub hl [2, 3, 4, 0] rfl)
            · replace h := pt_iN c5008 h
              refine lv_iinc (v := x2 + (1 : Int32)) (lv' := [(2, .int (x2 + (1 : Int32))), (4, .int ((σ5002 5 7) + (1 : Int32))), (0, .ref (ad 5)), (1, .int a1), (3, .int x3)]) hx hb dX6_giveTurnsInRing_50 hl (k := 3) rfl rfl (by decide) rfl (fun ls hl => ?_)
              refine lv_iinc (v := x3 + (1 : Int32)) (lv' := [(3, .int (x3 + (1 : Int32))), (2, .int (x2 + (1 : Int32))), (4, .int ((σ5002 5 7) + (1 : Int32))), (0, .ref (ad 5)), (1, .int a1)]) hx hb dX6_giveTurnsInRing_53 hl (k := 4) rfl rfl (by decide) rfl (fun ls hl => ?_)
              refine lv_goto (tgt := 4) hx hb dX6_giveTurnsInRing_56 (by decide) ?_
              exact ih0 _ _ _ h _ _ _ hP hS (lv_sub hl [3, 4, 1, 0] rfl)
  exact L4 _ _ _ _ h _ _ _ hP hS (lv_sub hl [2, 3, 1, 0] rfl)

def f_X6_markInterrupted (σ : pt_St) (a1 : Int32) : Option (Int32 × pt_St) :=
  pt_b2 (f_X6_worker σ a1) fun r1 σ1 =>
  if pt_iw r1 then
  if (σ1 (9 + r1.toNatClampNeg) 7) = (0 : Int32) then
  if (σ1 (9 + r1.toNatClampNeg) 1) = (4 : Int32) then
  some ((0 : Int32), σ1)
  else
  pt_do (pt_put σ1 (9 + r1.toNatClampNeg) 7 (1 : Int32)) fun σ5 =>
  some ((1 : Int32), σ5)
  else
  some ((0 : Int32), σ1)
  else
  some ((0 : Int32), σ1)
set_option maxHeartbeats 4000000 in
set_option maxRecDepth 100000 in
theorem m_X6_markInterrupted (l : Launch) {D : va_G} {A : Nat → Prop} {ca : Nat → ClassId} {ad : Nat → Nat} {z : Nat × Nat} (hDa : ∀ σ, va_D A (wC ca ad σ)) {σ σ' : pt_St} {r : Int32} {a1 : Int32} (h : f_X6_markInterrupted σ a1 = some (r, σ')) : Met l yX6_markInterrupted wsX6_markInterrupted { frames := 1, cells := 0, slots := 0, locals := 21 } (va_Pc [.ref (ad 5), .int a1] (pt_Pre D (tysC ca) z A (wC ca ad σ))) (pt_Q (some (.int r)) D (wC ca ad σ') A) 0 0 A := by
  refine Met.ofW (cc := cX6_markInterrupted) (maxL := 3) (ret := (some .boolean)) (by decide) rfl ?_
  intro p e s m args below meth c s₁ B hml hv
  obtain ⟨rfl, hP, hK, hZ⟩ := hv
  have S : CallFix p m c cX6_markInterrupted 3 s ([.ref (ad 5), .int a1] : List Value).toArray wsX6_markInterrupted RX6 := ⟨B.exec, B.bytes, hml, findClass_of_methodNamed B.named, atoms_spec (ws := wsX6_markInterrupted) B.pre⟩
  have hx := S.1
  have hb := S.2.1
  have hr := B.returns
  have hlk := B.notSynchronized
  clear B
  have hiX8 : ∀ w ∈ wsX80, w ∈ wsX6_markInterrupted := fun w h => List.mem_cons_of_mem _ (List.mem_append_left _ (List.mem_append_right _ h))
  have hiX6 : ∀ w ∈ wsX60, w ∈ wsX6_markInterrupted := fun w h => List.mem_cons_of_mem _ (List.mem_append_right _ h)
  have hS : va_S A s.heap s.heap [] := va_S.rf
  have hl := lv_entry ([.ref (ad 5), .int a1]) (n := 3) (Nat.le_of_ble_eq_true rfl)
  rw [lg_entry_eq]
  generalize (lg_sl ([.ref (ad 5), .int a1]) ++ List.replicate (3 - (lg_sl ([.ref (ad 5), .int a1])).length) Slot.unset).toArray = ls at hl ⊢
  have hl : lv_has ls 3 [(0, .ref (ad 5)), (1, .int a1)] := hl
  unfold f_X6_markInterrupted at h
  refine lv_aload_n hx hb dX6_markInterrupted_0 rfl (lv_at hl 0 rfl) ?_
  refine lv_iload_n hx hb dX6_markInterrupted_1 rfl (lv_at hl 1 rfl) ?_
  replace h := pt_b2s h; obtain ⟨r1, σ1, e1, h⟩ := h
  refine pt_cVo (As := [.int a1]) (rest := []) S (m_X6_worker l hDa e1) (cwV 1 S.2.2.2.2 gX6_markInterrupted_X6_worker rfl rfl rfl (by decide +kernel) ⟨Nat.le_of_ble_eq_true rfl, Nat.le_of_ble_eq_true rfl⟩) hK hP hS hZ 5 6 rfl rfl rfl hl.1 rfl (Nat.le_of_ble_eq_true rfl) dX6_markInterrupted_2 ⟨Nat.zero_le _, Nat.zero_le _⟩ (fun H locs hP hS => ?_)
  by_cases c2 : pt_iw r1
  · replace h := pt_ip c2 h
    refine pt_fkW c2 ?_
    refine lv_astore_n (lv' := [(2, .ref (ad (9 + r1.toNatClampNeg))), (0, .ref (ad 5)), (1, .int a1)]) hx hb dX6_markInterrupted_5 rfl hl (by decide) rfl (fun ls hl => ?_)
    refine lv_aload_n hx hb dX6_markInterrupted_6 rfl (lv_at hl 0 rfl) ?_
    refine lv_ifnull hx hb dX6_markInterrupted_7 ?_
    refine lv_aload_n hx hb dX6_markInterrupted_10 rfl (lv_at hl 0 rfl) ?_
    refine gfN_X8_7 (pt_in_lt c2) S hiX8 hK hP (List.mem_of_getElem? (i := 13) rfl) dX6_markInterrupted_11 ?_
    refine lv_if_ne (tgt := 25) hx hb dX6_markInterrupted_14 (by decide) (fun c3 => ?_) (fun c3 => ?_)
    · replace h := pt_iN c3 h
      refine lv_iconst (v := 0) hx hb dX6_markInterrupted_25 (by decide) ?_
      exact pt_zret S hr hlk hP hS (Or.inl rfl) (pt_pr h).1 (congrArg (wC ca ad) (pt_pr h).2) dX6_markInterrupted_26
    · replace h := pt_ip c3 h
      refine lv_aload_n hx hb dX6_markInterrupted_17 rfl (lv_at hl 0 rfl) ?_
      refine gfN_X8_1 (pt_in_lt c2) S hiX8 hK hP (List.mem_of_getElem? (i := 6) rfl) dX6_markInterrupted_18 ?_
      refine lv_iconst (v := 4) hx hb dX6_markInterrupted_21 (by decide) ?_
      refine lv_icmp_ne (tgt := 27) hx hb dX6_markInterrupted_22 (by decide) (fun c4 => ?_) (fun c4 => ?_)
      · replace h := pt_iN c4 h
        refine lv_aload_n hx hb dX6_markInterrupted_27 rfl (lv_at hl 0 rfl) ?_
        refine lv_iconst (v := 1) hx hb dX6_markInterrupted_28 (by decide) ?_
        replace h := pt_dos h; obtain ⟨σ5, e5, h⟩ := h
        refine pfN_X8_7 (pt_in_lt c2) S hiX8 hK hP hDa hS (List.mem_of_getElem? (i := 13) rfl) (Or.inr rfl) e5 dX6_markInterrupted_29 (fun H locs hP hS => ?_)
        refine lv_iconst (v := 1) hx hb dX6_markInterrupted_32 (by decide) ?_
        exact pt_zret S hr hlk hP hS (Or.inr rfl) (pt_pr h).1 (congrArg (wC ca ad) (pt_pr h).2) dX6_markInterrupted_33
      · replace h := pt_ip c4 h
        refine lv_iconst (v := 0) hx hb dX6_markInterrupted_25 (by decide) ?_
        exact pt_zret S hr hlk hP hS (Or.inl rfl) (pt_pr h).1 (congrArg (wC ca ad) (pt_pr h).2) dX6_markInterrupted_26
  · replace h := pt_iN c2 h
    refine pt_fkN c2 ?_
    refine lv_astore_nN (lv' := [(2, .null), (0, .ref (ad 5)), (1, .int a1)]) hx hb dX6_markInterrupted_5 rfl hl (by decide) rfl (fun ls hl => ?_)
    refine lv_aload_nN hx hb dX6_markInterrupted_6 rfl (lv_at hl 0 rfl) ?_
    refine lv_ifnullN (tgt := 25) hx hb dX6_markInterrupted_7 (by decide) ?_
    refine lv_iconst (v := 0) hx hb dX6_markInterrupted_25 (by decide) ?_
    exact pt_zret S hr hlk hP hS (Or.inl rfl) (pt_pr h).1 (congrArg (wC ca ad) (pt_pr h).2) dX6_markInterrupted_26

def lp_X6_endAll_12 (k : pt_St → Int32 → Int32 → Option (Int32 × pt_St)) : Nat → pt_St → Int32 → Int32 → Option (Int32 × pt_St)
  | 0, _, _, _ => none
  | n + 1, σ, x1, x2 =>
    if (σ 5 6) ≤ x2 then
    k σ x1 x2
    else
    if (6 : Int32) ≤ x2 then
    k σ x1 x2
    else
    if pt_in x2 6 then
    if (σ (9 + x2.toNatClampNeg) 1) = (2 : Int32) then
    pt_b1 (f_X1_giveBack σ (σ (9 + x2.toNatClampNeg) 4)) fun σ13005 =>
    if (σ13005 (9 + x2.toNatClampNeg) 1) = (4 : Int32) then
    lp_X6_endAll_12 k n σ13005 x1 (x2 + (1 : Int32))
    else
    pt_b1 (f_X8_end σ13005 x2) fun σ13007 =>
    lp_X6_endAll_12 k n σ13007 (x1 + (1 : Int32)) (x2 + (1 : Int32))
    else
    if (σ (9 + x2.toNatClampNeg) 1) = (4 : Int32) then
    lp_X6_endAll_12 k n σ x1 (x2 + (1 : Int32))
    else
    pt_b1 (f_X8_end σ x2) fun σ13009 =>
    lp_X6_endAll_12 k n σ13009 (x1 + (1 : Int32)) (x2 + (1 : Int32))
    else none
def kx_X6_endAll_12 (σ : pt_St) (x1 : Int32) (x2 : Int32) : Option (Int32 × pt_St) :=
  some (x1, σ)
def f_X6_endAll (σ : pt_St) : Option (Int32 × pt_St) :=
  pt_do (pt_put σ 6 1 (0 : Int32)) fun σ1 =>
  lp_X6_endAll_12 (kx_X6_endAll_12) pt_F σ1 (0 : Int32) (0 : Int32)
set_option maxHeartbeats 4000000 in
set_option maxRecDepth 100000 in
theorem m_X6_endAll (l : Launch) {D : va_G} {A : Nat → Prop} {ca : Nat → ClassId} {ad : Nat → Nat} {z : Nat × Nat} (hDa : ∀ σ, va_D A (wC ca ad σ)) {σ σ' : pt_St} {r : Int32} (h : f_X6_endAll σ = some (r, σ')) : Met l yX6_endAll wsX6_endAll { frames := 2, cells := 0, slots := 0, locals := 44 } (va_Pc [.ref (ad 5)] (pt_Pre D (tysC ca) z A (wC ca ad σ))) (pt_Q (some (.int r)) D (wC ca ad σ') A) 0 0 A := by
  refine Met.ofW (cc := cX6_endAll) (maxL := 4) (ret := (some .int)) (by decide) rfl ?_
  intro p e s m args below meth c s₁ B hml hv
  obtain ⟨rfl, hP, hK, hZ⟩ := hv
  have S : CallFix p m c cX6_endAll 4 s ([.ref (ad 5)] : List Value).toArray wsX6_endAll RX6 := ⟨B.exec, B.bytes, hml, findClass_of_methodNamed B.named, atoms_spec (ws := wsX6_endAll) B.pre⟩
  have hx := S.1
  have hb := S.2.1
  have hr := B.returns
  have hlk := B.notSynchronized
  clear B
  have hiX6 : ∀ w ∈ wsX60, w ∈ wsX6_endAll := fun w h => List.mem_cons_of_mem _ (List.mem_append_left _ (List.mem_append_left _ (List.mem_append_right _ h)))
  have hiX1 : ∀ w ∈ wsX10, w ∈ wsX6_endAll := fun w h => List.mem_cons_of_mem _ (List.mem_append_left _ (List.mem_append_right _ h))
  have hiX8 : ∀ w ∈ wsX80, w ∈ wsX6_endAll := fun w h => List.mem_cons_of_mem _ (List.mem_append_right _ h)
  have hf20 : (Cond.fieldLink RX6 20 "PackThreads$Stream" "memory" "LPackThreads$Memory;").before _ s = true := S.2.2.2.2 _ (List.mem_of_getElem? (i := 1) rfl)
  have hf49 : (Cond.fieldLink RX6 49 "PackThreads$Stream" "threads" "I").before _ s = true := S.2.2.2.2 _ (List.mem_of_getElem? (i := 2) rfl)
  have hf11 : (Cond.fieldLink RX6 11 "PackThreads$Stream" "workers" "[LPackThreads$Worker;").before _ s = true := S.2.2.2.2 _ (List.mem_of_getElem? (i := 3) rfl)
  have hS : va_S A s.heap s.heap [] := va_S.rf
  have hl := lv_entry ([.ref (ad 5)]) (n := 4) (Nat.le_of_ble_eq_true rfl)
  rw [lg_entry_eq]
  generalize (lg_sl ([.ref (ad 5)]) ++ List.replicate (4 - (lg_sl ([.ref (ad 5)])).length) Slot.unset).toArray = ls at hl ⊢
  have hl : lv_has ls 4 [(0, .ref (ad 5))] := hl
  unfold f_X6_endAll at h
  refine lv_iconst (v := 0) hx hb dX6_endAll_0 (by decide) ?_
  refine lv_istore_n (lv' := [(1, .int (0 : Int32)), (0, .ref (ad 5))]) hx hb dX6_endAll_1 rfl hl (by decide) rfl (fun ls hl => ?_)
  refine lv_aload_n hx hb dX6_endAll_2 rfl (lv_at hl 1 rfl) ?_
  refine gf_X6_3 S hiX6 hK hP hf20 dX6_endAll_3 ?_
  refine lv_iconst (v := 0) hx hb dX6_endAll_6 (by decide) ?_
  replace h := pt_dos h; obtain ⟨σ1, e1, h⟩ := h
  refine pfN_X1_1 S hiX1 hK hP hDa hS (List.mem_of_getElem? (i := 0) rfl) e1 dX6_endAll_7 (fun H locs hP hS => ?_)
  refine lv_iconst (v := 0) hx hb dX6_endAll_10 (by decide) ?_
  refine lv_istore_n (lv' := [(2, .int (0 : Int32)), (1, .int (0 : Int32)), (0, .ref (ad 5))]) hx hb dX6_endAll_11 rfl hl (by decide) rfl (fun ls hl => ?_)
  have X12 : ∀ (σ : pt_St) (x1 : Int32) (x2 : Int32), kx_X6_endAll_12 σ x1 x2 = some (r, σ') → ∀ (H : Heap) (locs : List Loc) (ls : Array Slot), va_P D vwCl (wC ca ad σ) H → va_S A s.heap H locs → lv_has ls 4 [(0, .ref (ad 5)), (1, .int x1), (2, .int x2)] → W p l e (headSpec wsX6_endAll { frames := 2, cells := 0, slots := 0, locals := 44 }).room s m ([.ref (ad 5)] : List Value).toArray below meth c H locs 0 0 (MQ below (pt_Q (some (.int r)) D (wC ca ad σ') A) ([.ref (ad 5)] : List Value).toArray s 0 0 A) (F0 m 76 ls []) := by
    intro σ x1 x2 h H locs ls hP hS hl
    unfold kx_X6_endAll_12 at h
    refine lv_iload_n hx hb dX6_endAll_76 rfl (lv_at hl 1 rfl) ?_
    exact pt_iret S hr hlk hP hS (pt_pr h).1 (congrArg (wC ca ad) (pt_pr h).2) dX6_endAll_77
  have L12 : ∀ (n : Nat) (σ : pt_St) (x1 : Int32) (x2 : Int32),  lp_X6_endAll_12 (kx_X6_endAll_12) n σ x1 x2 = some (r, σ') → ∀ (H : Heap) (locs : List Loc) (ls : Array Slot), va_P D vwCl (wC ca ad σ) H → va_S A s.heap H locs → lv_has ls 4 [(0, .ref (ad 5)), (1, .int x1), (2, .int x2)] → W p l e (headSpec wsX6_endAll { frames := 2, cells := 0, slots := 0, locals := 44 }).room s m ([.ref (ad 5)] : List Value).toArray below meth c H locs 0 0 (MQ below (pt_Q (some (.int r)) D (wC ca ad σ') A) ([.ref (ad 5)] : List Value).toArray s 0 0 A) (F0 m 12 ls []) := by
    intro n
    induction n with
    | zero => intro σ x1 x2 h; cases h
    | succ n ih0 =>
      intro σ x1 x2 h H locs ls hP hS hl
      rw [lp_X6_endAll_12] at h
      refine lv_iload_n hx hb dX6_endAll_12 rfl (lv_at hl 2 rfl) ?_
      refine lv_aload_n hx hb dX6_endAll_13 rfl (lv_at hl 0 rfl) ?_
      refine gf_X6_6 S hiX6 hK hP hf49 dX6_endAll_14 ?_
      refine lv_icmp_ge (tgt := 76) hx hb dX6_endAll_17 (by decide) (fun c13001 => ?_) (fun c13001 => ?_)
      · replace h := pt_ip c13001 h
        exact X12 _ _ _ h _ _ _ hP hS (lv_sub hl [0, 1, 2] rfl)
      · replace h := pt_iN c13001 h
        refine lv_iload_n hx hb dX6_endAll_20 rfl (lv_at hl 2 rfl) ?_
        refine lv_aload_n hx hb dX6_endAll_21 rfl (lv_at hl 0 rfl) ?_
        refine gf_X6_2 S hiX6 hK hP hf11 dX6_endAll_22 ?_
        refine ln_C_22 S hK hP dX6_endAll_25 ?_
        refine lv_icmp_ge (tgt := 76) hx hb dX6_endAll_26 (by decide) (fun c13002 => ?_) (fun c13002 => ?_)
        · replace h := pt_ip c13002 h
          exact X12 _ _ _ h _ _ _ hP hS (lv_sub hl [0, 1, 2] rfl)
        · replace h := pt_iN c13002 h
          refine lv_aload_n hx hb dX6_endAll_29 rfl (lv_at hl 0 rfl) ?_
          refine gf_X6_2 S hiX6 hK hP hf11 dX6_endAll_30 ?_
          refine lv_iload_n hx hb dX6_endAll_33 rfl (lv_at hl 2 rfl) ?_
          replace h := pt_gd h; obtain ⟨g13003, h⟩ := h
          refine ld_C_22 S hK hP g13003 dX6_endAll_34 ?_
          refine lv_astore_n (lv' := [(3, .ref (ad (9 + x2.toNatClampNeg))), (0, .ref (ad 5)), (1, .int x1), (2, .int x2)]) hx hb dX6_endAll_35 rfl hl (by decide) rfl (fun ls hl => ?_)
          refine lv_aload_n hx hb dX6_endAll_36 rfl (lv_at hl 0 rfl) ?_
          refine gfN_X8_1 (pt_in_lt g13003) S hiX8 hK hP (List.mem_of_getElem? (i := 6) rfl) dX6_endAll_37 ?_
          refine lv_iconst (v := 2) hx hb dX6_endAll_40 (by decide) ?_
          refine lv_icmp_ne (tgt := 55) hx hb dX6_endAll_41 (by decide) (fun c13004 => ?_) (fun c13004 => ?_)
          · replace h := pt_iN c13004 h
            refine lv_aload_n hx hb dX6_endAll_55 rfl (lv_at hl 0 rfl) ?_
            refine gfN_X8_1 (pt_in_lt g13003) S hiX8 hK hP (List.mem_of_getElem? (i := 6) rfl) dX6_endAll_56 ?_
            refine lv_iconst (v := 4) hx hb dX6_endAll_59 (by decide) ?_
            refine lv_icmp_eq (tgt := 70) hx hb dX6_endAll_60 (by decide) (fun c13008 => ?_) (fun c13008 => ?_)
            · replace h := pt_ip c13008 h
              refine lv_iinc (v := x2 + (1 : Int32)) (lv' := [(2, .int (x2 + (1 : Int32))), (3, .ref (ad (9 + x2.toNatClampNeg))), (0, .ref (ad 5)), (1, .int x1)]) hx hb dX6_endAll_70 hl (k := 3) rfl rfl (by decide) rfl (fun ls hl => ?_)
              refine lv_goto (tgt := 12) hx hb dX6_endAll_73 (by decide) ?_
              exact ih0 _ _ _ h _ _ _ hP hS (lv_sub hl [2, 3, 0] rfl)
            · replace h := pt_iN c13008 h
              refine lv_aload_n hx hb dX6_endAll_63 rfl (lv_at hl 0 rfl) ?_
              replace h := pt_b1s h; obtain ⟨σ13009, e13009, h⟩ := h
              refine pt_cVv (As := []) (rest := []) S (m_X8_end l hDa g13003 e13009) (cwV 0 S.2.2.2.2 gX6_endAll_X8_end rfl rfl rfl (by decide +kernel) ⟨Nat.le_of_ble_eq_true rfl, Nat.le_of_ble_eq_true rfl⟩) hK hP hS hZ (9 + x2.toNatClampNeg) 8 (pt_w8 (pt_in_lt g13003) ca ad σ) rfl rfl hl.1 rfl (Nat.le_of_ble_eq_true rfl) dX6_endAll_64 ⟨Nat.zero_le _, Nat.zero_le _⟩ (fun H locs hP hS => ?_)
              refine lv_iinc (v := x1 + (1 : Int32)) (lv' := [(1, .int (x1 + (1 : Int32))), (3, .ref (ad (9 + x2.toNatClampNeg))), (0, .ref (ad 5)), (2, .int x2)]) hx hb dX6_endAll_67 hl (k := 2) rfl rfl (by decide) rfl (fun ls hl => ?_)
              refine lv_iinc (v := x2 + (1 : Int32)) (lv' := [(2, .int (x2 + (1 : Int32))), (1, .int (x1 + (1 : Int32))), (3, .ref (ad (9 + x2.toNatClampNeg))), (0, .ref (ad 5))]) hx hb dX6_endAll_70 hl (k := 3) rfl rfl (by decide) rfl (fun ls hl => ?_)
              refine lv_goto (tgt := 12) hx hb dX6_endAll_73 (by decide) ?_
              exact ih0 _ _ _ h _ _ _ hP hS (lv_sub hl [3, 1, 0] rfl)
          · replace h := pt_ip c13004 h
            refine lv_aload_n hx hb dX6_endAll_44 rfl (lv_at hl 1 rfl) ?_
            refine gf_X6_3 S hiX6 hK hP hf20 dX6_endAll_45 ?_
            refine lv_aload_n hx hb dX6_endAll_48 rfl (lv_at hl 0 rfl) ?_
            refine gfN_X8_4 (pt_in_lt g13003) S hiX8 hK hP (List.mem_of_getElem? (i := 10) rfl) dX6_endAll_49 ?_
            replace h := pt_b1s h; obtain ⟨σ13005, e13005, h⟩ := h
            refine pt_cVv (As := [.int (σ (9 + x2.toNatClampNeg) 4)]) (rest := []) S (m_X1_giveBack l hDa e13005) (cwV 1 S.2.2.2.2 gX6_endAll_X1_giveBack rfl rfl rfl (by decide +kernel) ⟨Nat.le_of_ble_eq_true rfl, Nat.le_of_ble_eq_true rfl⟩) hK hP hS hZ 6 1 rfl rfl rfl hl.1 rfl (Nat.le_of_ble_eq_true rfl) dX6_endAll_52 ⟨Nat.zero_le _, Nat.zero_le _⟩ (fun H locs hP hS => ?_)
            refine lv_aload_n hx hb dX6_endAll_55 rfl (lv_at hl 0 rfl) ?_
            refine gfN_X8_1 (pt_in_lt g13003) S hiX8 hK hP (List.mem_of_getElem? (i := 6) rfl) dX6_endAll_56 ?_
            refine lv_iconst (v := 4) hx hb dX6_endAll_59 (by decide) ?_
            refine lv_icmp_eq (tgt := 70) hx hb dX6_endAll_60 (by decide) (fun c13006 => ?_) (fun c13006 => ?_)
            · replace h := pt_ip c13006 h
              refine lv_iinc (v := x2 + (1 : Int32)) (lv' := [(2, .int (x2 + (1 : Int32))), (3, .ref (ad (9 + x2.toNatClampNeg))), (0, .ref (ad 5)), (1, .int x1)]) hx hb dX6_endAll_70 hl (k := 3) rfl rfl (by decide) rfl (fun ls hl => ?_)
              refine lv_goto (tgt := 12) hx hb dX6_endAll_73 (by decide) ?_
              exact ih0 _ _ _ h _ _ _ hP hS (lv_sub hl [2, 3, 0] rfl)
            · replace h := pt_iN c13006 h
              refine lv_aload_n hx hb dX6_endAll_63 rfl (lv_at hl 0 rfl) ?_
              replace h := pt_b1s h; obtain ⟨σ13007, e13007, h⟩ := h
              refine pt_cVv (As := []) (rest := []) S (m_X8_end l hDa g13003 e13007) (cwV 0 S.2.2.2.2 gX6_endAll_X8_end rfl rfl rfl (by decide +kernel) ⟨Nat.le_of_ble_eq_true rfl, Nat.le_of_ble_eq_true rfl⟩) hK hP hS hZ (9 + x2.toNatClampNeg) 8 (pt_w8 (pt_in_lt g13003) ca ad σ13005) rfl rfl hl.1 rfl (Nat.le_of_ble_eq_true rfl) dX6_endAll_64 ⟨Nat.zero_le _, Nat.zero_le _⟩ (fun H locs hP hS => ?_)
              refine lv_iinc (v := x1 + (1 : Int32)) (lv' := [(1, .int (x1 + (1 : Int32))), (3, .ref (ad (9 + x2.toNatClampNeg))), (0, .ref (ad 5)), (2, .int x2)]) hx hb dX6_endAll_67 hl (k := 2) rfl rfl (by decide) rfl (fun ls hl => ?_)
              refine lv_iinc (v := x2 + (1 : Int32)) (lv' := [(2, .int (x2 + (1 : Int32))), (1, .int (x1 + (1 : Int32))), (3, .ref (ad (9 + x2.toNatClampNeg))), (0, .ref (ad 5))]) hx hb dX6_endAll_70 hl (k := 3) rfl rfl (by decide) rfl (fun ls hl => ?_)
              refine lv_goto (tgt := 12) hx hb dX6_endAll_73 (by decide) ?_
              exact ih0 _ _ _ h _ _ _ hP hS (lv_sub hl [3, 1, 0] rfl)
  exact L12 _ _ _ _ h _ _ _ hP hS (lv_sub hl [2, 1, 0] rfl)

def f_X6_joinedBytes (σ : pt_St) : Option (Int32 × pt_St) :=
  pt_b2 (f_X2_lengthOfFirst σ (σ 7 3)) fun r1 σ1 =>
  some (r1, σ1)
set_option maxHeartbeats 4000000 in
set_option maxRecDepth 100000 in
theorem m_X6_joinedBytes (l : Launch) {D : va_G} {A : Nat → Prop} {ca : Nat → ClassId} {ad : Nat → Nat} {z : Nat × Nat} (hDa : ∀ σ, va_D A (wC ca ad σ)) {σ σ' : pt_St} {r : Int32} (h : f_X6_joinedBytes σ = some (r, σ')) : Met l yX6_joinedBytes wsX6_joinedBytes { frames := 1, cells := 0, slots := 0, locals := 21 } (va_Pc [.ref (ad 5)] (pt_Pre D (tysC ca) z A (wC ca ad σ))) (pt_Q (some (.int r)) D (wC ca ad σ') A) 0 0 A := by
  refine Met.ofW (cc := cX6_joinedBytes) (maxL := 1) (ret := (some .int)) (by decide) rfl ?_
  intro p e s m args below meth c s₁ B hml hv
  obtain ⟨rfl, hP, hK, hZ⟩ := hv
  have S : CallFix p m c cX6_joinedBytes 1 s ([.ref (ad 5)] : List Value).toArray wsX6_joinedBytes RX6 := ⟨B.exec, B.bytes, hml, findClass_of_methodNamed B.named, atoms_spec (ws := wsX6_joinedBytes) B.pre⟩
  have hx := S.1
  have hb := S.2.1
  have hr := B.returns
  have hlk := B.notSynchronized
  clear B
  have hiX6 : ∀ w ∈ wsX60, w ∈ wsX6_joinedBytes := fun w h => List.mem_cons_of_mem _ (List.mem_append_left _ (List.mem_append_left _ (List.mem_append_right _ h)))
  have hiX4 : ∀ w ∈ wsX40, w ∈ wsX6_joinedBytes := fun w h => List.mem_cons_of_mem _ (List.mem_append_left _ (List.mem_append_right _ h))
  have hiX2 : ∀ w ∈ wsX20, w ∈ wsX6_joinedBytes := fun w h => List.mem_cons_of_mem _ (List.mem_append_right _ h)
  have hf38 : (Cond.fieldLink RX6 38 "PackThreads$Stream" "packs" "LPackThreads$Packs;").before _ s = true := S.2.2.2.2 _ (List.mem_of_getElem? (i := 1) rfl)
  have hf27 : (Cond.fieldLink RX6 27 "PackThreads$Stream" "row" "LPackThreads$Row;").before _ s = true := S.2.2.2.2 _ (List.mem_of_getElem? (i := 2) rfl)
  have hS : va_S A s.heap s.heap [] := va_S.rf
  have hl := lv_entry ([.ref (ad 5)]) (n := 1) (Nat.le_of_ble_eq_true rfl)
  rw [lg_entry_eq]
  generalize (lg_sl ([.ref (ad 5)]) ++ List.replicate (1 - (lg_sl ([.ref (ad 5)])).length) Slot.unset).toArray = ls at hl ⊢
  have hl : lv_has ls 1 [(0, .ref (ad 5))] := hl
  unfold f_X6_joinedBytes at h
  refine lv_aload_n hx hb dX6_joinedBytes_0 rfl (lv_at hl 0 rfl) ?_
  refine gf_X6_0 S hiX6 hK hP hf38 dX6_joinedBytes_1 ?_
  refine lv_aload_n hx hb dX6_joinedBytes_4 rfl (lv_at hl 0 rfl) ?_
  refine gf_X6_4 S hiX6 hK hP hf27 dX6_joinedBytes_5 ?_
  refine gfN_X4_3 S hiX4 hK hP (List.mem_of_getElem? (i := 3) rfl) dX6_joinedBytes_8 ?_
  replace h := pt_b2s h; obtain ⟨r1, σ1, e1, h⟩ := h
  refine pt_cVi (As := [.int (σ 7 3)]) (rest := []) S (m_X2_lengthOfFirst l hDa e1) (cwV 1 S.2.2.2.2 gX6_joinedBytes_X2_lengthOfFirst rfl rfl rfl (by decide +kernel) ⟨Nat.le_of_ble_eq_true rfl, Nat.le_of_ble_eq_true rfl⟩) hK hP hS hZ 4 2 rfl rfl rfl hl.1 rfl (Nat.le_of_ble_eq_true rfl) dX6_joinedBytes_11 ⟨Nat.zero_le _, Nat.zero_le _⟩ (fun H locs hP hS => ?_)
  exact pt_iret S hr hlk hP hS (pt_pr h).1 (congrArg (wC ca ad) (pt_pr h).2) dX6_joinedBytes_14

def f_X6_numberInLine (σ : pt_St) (a1 : Int32) : Option (Int32 × pt_St) :=
  pt_b2 (f_X1_numberAt σ a1) fun r1 σ1 =>
  some (r1, σ1)
set_option maxHeartbeats 4000000 in
set_option maxRecDepth 100000 in
theorem m_X6_numberInLine (l : Launch) {D : va_G} {A : Nat → Prop} {ca : Nat → ClassId} {ad : Nat → Nat} {z : Nat × Nat} (hDa : ∀ σ, va_D A (wC ca ad σ)) {σ σ' : pt_St} {r : Int32} {a1 : Int32} (h : f_X6_numberInLine σ a1 = some (r, σ')) : Met l yX6_numberInLine wsX6_numberInLine { frames := 1, cells := 0, slots := 0, locals := 22 } (va_Pc [.ref (ad 5), .int a1] (pt_Pre D (tysC ca) z A (wC ca ad σ))) (pt_Q (some (.int r)) D (wC ca ad σ') A) 0 0 A := by
  refine Met.ofW (cc := cX6_numberInLine) (maxL := 2) (ret := (some .int)) (by decide) rfl ?_
  intro p e s m args below meth c s₁ B hml hv
  obtain ⟨rfl, hP, hK, hZ⟩ := hv
  have S : CallFix p m c cX6_numberInLine 2 s ([.ref (ad 5), .int a1] : List Value).toArray wsX6_numberInLine RX6 := ⟨B.exec, B.bytes, hml, findClass_of_methodNamed B.named, atoms_spec (ws := wsX6_numberInLine) B.pre⟩
  have hx := S.1
  have hb := S.2.1
  have hr := B.returns
  have hlk := B.notSynchronized
  clear B
  have hiX6 : ∀ w ∈ wsX60, w ∈ wsX6_numberInLine := fun w h => List.mem_cons_of_mem _ (List.mem_append_left _ (List.mem_append_left _ (List.mem_append_right _ h)))
  have hiX1 : ∀ w ∈ wsX10, w ∈ wsX6_numberInLine := fun w h => List.mem_cons_of_mem _ (List.mem_append_left _ (List.mem_append_right _ h))
  have hiX8 : ∀ w ∈ wsX80, w ∈ wsX6_numberInLine := fun w h => List.mem_cons_of_mem _ (List.mem_append_right _ h)
  have hf20 : (Cond.fieldLink RX6 20 "PackThreads$Stream" "memory" "LPackThreads$Memory;").before _ s = true := S.2.2.2.2 _ (List.mem_of_getElem? (i := 1) rfl)
  have hS : va_S A s.heap s.heap [] := va_S.rf
  have hl := lv_entry ([.ref (ad 5), .int a1]) (n := 2) (Nat.le_of_ble_eq_true rfl)
  rw [lg_entry_eq]
  generalize (lg_sl ([.ref (ad 5), .int a1]) ++ List.replicate (2 - (lg_sl ([.ref (ad 5), .int a1])).length) Slot.unset).toArray = ls at hl ⊢
  have hl : lv_has ls 2 [(0, .ref (ad 5)), (1, .int a1)] := hl
  unfold f_X6_numberInLine at h
  refine lv_aload_n hx hb dX6_numberInLine_0 rfl (lv_at hl 0 rfl) ?_
  refine gf_X6_3 S hiX6 hK hP hf20 dX6_numberInLine_1 ?_
  refine lv_iload_n hx hb dX6_numberInLine_4 rfl (lv_at hl 1 rfl) ?_
  replace h := pt_b2s h; obtain ⟨r1, σ1, e1, h⟩ := h
  refine pt_cVi (As := [.int a1]) (rest := []) S (m_X1_numberAt l hDa e1) (cwV 1 S.2.2.2.2 gX6_numberInLine_X1_numberAt rfl rfl rfl (by decide +kernel) ⟨Nat.le_of_ble_eq_true rfl, Nat.le_of_ble_eq_true rfl⟩) hK hP hS hZ 6 1 rfl rfl rfl hl.1 rfl (Nat.le_of_ble_eq_true rfl) dX6_numberInLine_5 ⟨Nat.zero_le _, Nat.zero_le _⟩ (fun H locs hP hS => ?_)
  exact pt_iret S hr hlk hP hS (pt_pr h).1 (congrArg (wC ca ad) (pt_pr h).2) dX6_numberInLine_8

def f_X6_tellOfThread (σ : pt_St) (a1 : Int32) (a2 : Int32) : Option (Int32 × pt_St) :=
  pt_b2 (f_X6_worker σ a1) fun r1 σ1 =>
  if pt_iw r1 then
  if a2 = (0 : Int32) then
  some ((σ1 (9 + r1.toNatClampNeg) 1), σ1)
  else
  if a2 = (1 : Int32) then
  some ((σ1 (9 + r1.toNatClampNeg) 2), σ1)
  else
  if a2 = (2 : Int32) then
  some ((σ1 (9 + r1.toNatClampNeg) 3), σ1)
  else
  if a2 = (3 : Int32) then
  some ((σ1 (9 + r1.toNatClampNeg) 5), σ1)
  else
  some ((σ1 (9 + r1.toNatClampNeg) 6), σ1)
  else
  some ((-2 : Int32), σ1)
set_option maxHeartbeats 4000000 in
set_option maxRecDepth 100000 in
theorem m_X6_tellOfThread (l : Launch) {D : va_G} {A : Nat → Prop} {ca : Nat → ClassId} {ad : Nat → Nat} {z : Nat × Nat} (hDa : ∀ σ, va_D A (wC ca ad σ)) {σ σ' : pt_St} {r : Int32} {a1 : Int32} {a2 : Int32} (h : f_X6_tellOfThread σ a1 a2 = some (r, σ')) : Met l yX6_tellOfThread wsX6_tellOfThread { frames := 1, cells := 0, slots := 0, locals := 21 } (va_Pc [.ref (ad 5), .int a1, .int a2] (pt_Pre D (tysC ca) z A (wC ca ad σ))) (pt_Q (some (.int r)) D (wC ca ad σ') A) 0 0 A := by
  refine Met.ofW (cc := cX6_tellOfThread) (maxL := 4) (ret := (some .int)) (by decide) rfl ?_
  intro p e s m args below meth c s₁ B hml hv
  obtain ⟨rfl, hP, hK, hZ⟩ := hv
  have S : CallFix p m c cX6_tellOfThread 4 s ([.ref (ad 5), .int a1, .int a2] : List Value).toArray wsX6_tellOfThread RX6 := ⟨B.exec, B.bytes, hml, findClass_of_methodNamed B.named, atoms_spec (ws := wsX6_tellOfThread) B.pre⟩
  have hx := S.1
  have hb := S.2.1
  have hr := B.returns
  have hlk := B.notSynchronized
  clear B
  have hiX8 : ∀ w ∈ wsX80, w ∈ wsX6_tellOfThread := fun w h => List.mem_cons_of_mem _ (List.mem_append_left _ (List.mem_append_right _ h))
  have hiX6 : ∀ w ∈ wsX60, w ∈ wsX6_tellOfThread := fun w h => List.mem_cons_of_mem _ (List.mem_append_right _ h)
  have hS : va_S A s.heap s.heap [] := va_S.rf
  have hl := lv_entry ([.ref (ad 5), .int a1, .int a2]) (n := 4) (Nat.le_of_ble_eq_true rfl)
  rw [lg_entry_eq]
  generalize (lg_sl ([.ref (ad 5), .int a1, .int a2]) ++ List.replicate (4 - (lg_sl ([.ref (ad 5), .int a1, .int a2])).length) Slot.unset).toArray = ls at hl ⊢
  have hl : lv_has ls 4 [(0, .ref (ad 5)), (1, .int a1), (2, .int a2)] := hl
  unfold f_X6_tellOfThread at h
  refine lv_aload_n hx hb dX6_tellOfThread_0 rfl (lv_at hl 0 rfl) ?_
  refine lv_iload_n hx hb dX6_tellOfThread_1 rfl (lv_at hl 1 rfl) ?_
  replace h := pt_b2s h; obtain ⟨r1, σ1, e1, h⟩ := h
  refine pt_cVo (As := [.int a1]) (rest := []) S (m_X6_worker l hDa e1) (cwV 1 S.2.2.2.2 gX6_tellOfThread_X6_worker rfl rfl rfl (by decide +kernel) ⟨Nat.le_of_ble_eq_true rfl, Nat.le_of_ble_eq_true rfl⟩) hK hP hS hZ 5 6 rfl rfl rfl hl.1 rfl (Nat.le_of_ble_eq_true rfl) dX6_tellOfThread_2 ⟨Nat.zero_le _, Nat.zero_le _⟩ (fun H locs hP hS => ?_)
  by_cases c2 : pt_iw r1
  · replace h := pt_ip c2 h
    refine pt_fkW c2 ?_
    refine lv_astore_n (lv' := [(3, .ref (ad (9 + r1.toNatClampNeg))), (0, .ref (ad 5)), (1, .int a1), (2, .int a2)]) hx hb dX6_tellOfThread_5 rfl hl (by decide) rfl (fun ls hl => ?_)
    refine lv_aload_n hx hb dX6_tellOfThread_6 rfl (lv_at hl 0 rfl) ?_
    refine lv_ifnonnull (tgt := 13) hx hb dX6_tellOfThread_7 (by decide) ?_
    refine lv_iload_n hx hb dX6_tellOfThread_13 rfl (lv_at hl 3 rfl) ?_
    by_cases c3 : a2 = (0 : Int32)
    · replace h := pt_ip c3 h
      refine lv_tableIn (off := 30) (tgt := 44) hx hb dX6_tellOfThread_14 (by rw [c3]; decide) (by rw [c3]; decide) (by rw [c3]; rfl) (by decide) ?_
      refine lv_aload_n hx hb dX6_tellOfThread_44 rfl (lv_at hl 0 rfl) ?_
      refine gfN_X8_1 (pt_in_lt c2) S hiX8 hK hP (List.mem_of_getElem? (i := 6) rfl) dX6_tellOfThread_45 ?_
      exact pt_iret S hr hlk hP hS (pt_pr h).1 (congrArg (wC ca ad) (pt_pr h).2) dX6_tellOfThread_48
    · replace h := pt_iN c3 h
      by_cases c4 : a2 = (1 : Int32)
      · replace h := pt_ip c4 h
        refine lv_tableIn (off := 35) (tgt := 49) hx hb dX6_tellOfThread_14 (by rw [c4]; decide) (by rw [c4]; decide) (by rw [c4]; rfl) (by decide) ?_
        refine lv_aload_n hx hb dX6_tellOfThread_49 rfl (lv_at hl 0 rfl) ?_
        refine gfN_X8_2 (pt_in_lt c2) S hiX8 hK hP (List.mem_of_getElem? (i := 7) rfl) dX6_tellOfThread_50 ?_
        exact pt_iret S hr hlk hP hS (pt_pr h).1 (congrArg (wC ca ad) (pt_pr h).2) dX6_tellOfThread_53
      · replace h := pt_iN c4 h
        by_cases c5 : a2 = (2 : Int32)
        · replace h := pt_ip c5 h
          refine lv_tableIn (off := 40) (tgt := 54) hx hb dX6_tellOfThread_14 (by rw [c5]; decide) (by rw [c5]; decide) (by rw [c5]; rfl) (by decide) ?_
          refine lv_aload_n hx hb dX6_tellOfThread_54 rfl (lv_at hl 0 rfl) ?_
          refine gfN_X8_3 (pt_in_lt c2) S hiX8 hK hP (List.mem_of_getElem? (i := 8) rfl) dX6_tellOfThread_55 ?_
          exact pt_iret S hr hlk hP hS (pt_pr h).1 (congrArg (wC ca ad) (pt_pr h).2) dX6_tellOfThread_58
        · replace h := pt_iN c5 h
          by_cases c6 : a2 = (3 : Int32)
          · replace h := pt_ip c6 h
            refine lv_tableIn (off := 45) (tgt := 59) hx hb dX6_tellOfThread_14 (by rw [c6]; decide) (by rw [c6]; decide) (by rw [c6]; rfl) (by decide) ?_
            refine lv_aload_n hx hb dX6_tellOfThread_59 rfl (lv_at hl 0 rfl) ?_
            refine gfN_X8_5 (pt_in_lt c2) S hiX8 hK hP (List.mem_of_getElem? (i := 11) rfl) dX6_tellOfThread_60 ?_
            exact pt_iret S hr hlk hP hS (pt_pr h).1 (congrArg (wC ca ad) (pt_pr h).2) dX6_tellOfThread_63
          · replace h := pt_iN c6 h
            refine lv_tableOut (tgt := 64) hx hb dX6_tellOfThread_14 (by have q0 := lv_neT c3 (a := 0) (by decide); have q1 := lv_neT c4 (a := 1) (by decide); have q2 := lv_neT c5 (a := 2) (by decide); have q3 := lv_neT c6 (a := 3) (by decide); omega) (by decide) ?_
            refine lv_aload_n hx hb dX6_tellOfThread_64 rfl (lv_at hl 0 rfl) ?_
            refine gfN_X8_6 (pt_in_lt c2) S hiX8 hK hP (List.mem_of_getElem? (i := 12) rfl) dX6_tellOfThread_65 ?_
            exact pt_iret S hr hlk hP hS (pt_pr h).1 (congrArg (wC ca ad) (pt_pr h).2) dX6_tellOfThread_68
  · replace h := pt_iN c2 h
    refine pt_fkN c2 ?_
    refine lv_astore_nN (lv' := [(3, .null), (0, .ref (ad 5)), (1, .int a1), (2, .int a2)]) hx hb dX6_tellOfThread_5 rfl hl (by decide) rfl (fun ls hl => ?_)
    refine lv_aload_nN hx hb dX6_tellOfThread_6 rfl (lv_at hl 0 rfl) ?_
    refine lv_ifnonnullN hx hb dX6_tellOfThread_7 ?_
    refine lv_bipush (v := -2) hx hb dX6_tellOfThread_10 (by decide) ?_
    exact pt_iret S hr hlk hP hS (pt_pr h).1 (congrArg (wC ca ad) (pt_pr h).2) dX6_tellOfThread_12

def f_X6_tellOfStores (σ : pt_St) (a1 : Int32) : Option (Int32 × pt_St) :=
  if a1 = (0 : Int32) then
  pt_b2 (f_X2_blocks σ) fun r2 σ2 =>
  some (r2, σ2)
  else
  if a1 = (1 : Int32) then
  some ((σ 7 3), σ)
  else
  if a1 = (2 : Int32) then
  pt_b2 (f_X6_joinedBytes σ) fun r5 σ5 =>
  some (r5, σ5)
  else
  if a1 = (3 : Int32) then
  some ((σ 6 2), σ)
  else
  if a1 = (4 : Int32) then
  some ((σ 6 1), σ)
  else
  some ((σ 7 1), σ)
set_option maxHeartbeats 4000000 in
set_option maxRecDepth 100000 in
theorem m_X6_tellOfStores (l : Launch) {D : va_G} {A : Nat → Prop} {ca : Nat → ClassId} {ad : Nat → Nat} {z : Nat × Nat} (hDa : ∀ σ, va_D A (wC ca ad σ)) {σ σ' : pt_St} {r : Int32} {a1 : Int32} (h : f_X6_tellOfStores σ a1 = some (r, σ')) : Met l yX6_tellOfStores wsX6_tellOfStores { frames := 2, cells := 0, slots := 0, locals := 41 } (va_Pc [.ref (ad 5), .int a1] (pt_Pre D (tysC ca) z A (wC ca ad σ))) (pt_Q (some (.int r)) D (wC ca ad σ') A) 0 0 A := by
  refine Met.ofW (cc := cX6_tellOfStores) (maxL := 2) (ret := (some .int)) (by decide) rfl ?_
  intro p e s m args below meth c s₁ B hml hv
  obtain ⟨rfl, hP, hK, hZ⟩ := hv
  have S : CallFix p m c cX6_tellOfStores 2 s ([.ref (ad 5), .int a1] : List Value).toArray wsX6_tellOfStores RX6 := ⟨B.exec, B.bytes, hml, findClass_of_methodNamed B.named, atoms_spec (ws := wsX6_tellOfStores) B.pre⟩
  have hx := S.1
  have hb := S.2.1
  have hr := B.returns
  have hlk := B.notSynchronized
  clear B
  have hiX6 : ∀ w ∈ wsX60, w ∈ wsX6_tellOfStores := fun w h => List.mem_cons_of_mem _ (List.mem_append_left _ (List.mem_append_left _ (List.mem_append_left _ (List.mem_append_right _ h))))
  have hiX4 : ∀ w ∈ wsX40, w ∈ wsX6_tellOfStores := fun w h => List.mem_cons_of_mem _ (List.mem_append_left _ (List.mem_append_left _ (List.mem_append_right _ h)))
  have hiX1 : ∀ w ∈ wsX10, w ∈ wsX6_tellOfStores := fun w h => List.mem_cons_of_mem _ (List.mem_append_left _ (List.mem_append_right _ h))
  have hiX2 : ∀ w ∈ wsX20, w ∈ wsX6_tellOfStores := fun w h => List.mem_cons_of_mem _ (List.mem_append_right _ h)
  have hf38 : (Cond.fieldLink RX6 38 "PackThreads$Stream" "packs" "LPackThreads$Packs;").before _ s = true := S.2.2.2.2 _ (List.mem_of_getElem? (i := 1) rfl)
  have hf27 : (Cond.fieldLink RX6 27 "PackThreads$Stream" "row" "LPackThreads$Row;").before _ s = true := S.2.2.2.2 _ (List.mem_of_getElem? (i := 2) rfl)
  have hf20 : (Cond.fieldLink RX6 20 "PackThreads$Stream" "memory" "LPackThreads$Memory;").before _ s = true := S.2.2.2.2 _ (List.mem_of_getElem? (i := 3) rfl)
  have hS : va_S A s.heap s.heap [] := va_S.rf
  have hl := lv_entry ([.ref (ad 5), .int a1]) (n := 2) (Nat.le_of_ble_eq_true rfl)
  rw [lg_entry_eq]
  generalize (lg_sl ([.ref (ad 5), .int a1]) ++ List.replicate (2 - (lg_sl ([.ref (ad 5), .int a1])).length) Slot.unset).toArray = ls at hl ⊢
  have hl : lv_has ls 2 [(0, .ref (ad 5)), (1, .int a1)] := hl
  unfold f_X6_tellOfStores at h
  refine lv_iload_n hx hb dX6_tellOfStores_0 rfl (lv_at hl 1 rfl) ?_
  by_cases c1 : a1 = (0 : Int32)
  · replace h := pt_ip c1 h
    refine lv_tableIn (off := 35) (tgt := 36) hx hb dX6_tellOfStores_1 (by rw [c1]; decide) (by rw [c1]; decide) (by rw [c1]; rfl) (by decide) ?_
    refine lv_aload_n hx hb dX6_tellOfStores_36 rfl (lv_at hl 0 rfl) ?_
    refine gf_X6_0 S hiX6 hK hP hf38 dX6_tellOfStores_37 ?_
    replace h := pt_b2s h; obtain ⟨r2, σ2, e2, h⟩ := h
    refine pt_cVi (As := []) (rest := []) S (m_X2_blocks l hDa e2) (cwV 0 S.2.2.2.2 gX6_tellOfStores_X2_blocks rfl rfl rfl (by decide +kernel) ⟨Nat.le_of_ble_eq_true rfl, Nat.le_of_ble_eq_true rfl⟩) hK hP hS hZ 4 2 rfl rfl rfl hl.1 rfl (Nat.le_of_ble_eq_true rfl) dX6_tellOfStores_40 ⟨Nat.zero_le _, Nat.zero_le _⟩ (fun H locs hP hS => ?_)
    exact pt_iret S hr hlk hP hS (pt_pr h).1 (congrArg (wC ca ad) (pt_pr h).2) dX6_tellOfStores_43
  · replace h := pt_iN c1 h
    by_cases c3 : a1 = (1 : Int32)
    · replace h := pt_ip c3 h
      refine lv_tableIn (off := 43) (tgt := 44) hx hb dX6_tellOfStores_1 (by rw [c3]; decide) (by rw [c3]; decide) (by rw [c3]; rfl) (by decide) ?_
      refine lv_aload_n hx hb dX6_tellOfStores_44 rfl (lv_at hl 0 rfl) ?_
      refine gf_X6_4 S hiX6 hK hP hf27 dX6_tellOfStores_45 ?_
      refine gfN_X4_3 S hiX4 hK hP (List.mem_of_getElem? (i := 3) rfl) dX6_tellOfStores_48 ?_
      exact pt_iret S hr hlk hP hS (pt_pr h).1 (congrArg (wC ca ad) (pt_pr h).2) dX6_tellOfStores_51
    · replace h := pt_iN c3 h
      by_cases c4 : a1 = (2 : Int32)
      · replace h := pt_ip c4 h
        refine lv_tableIn (off := 51) (tgt := 52) hx hb dX6_tellOfStores_1 (by rw [c4]; decide) (by rw [c4]; decide) (by rw [c4]; rfl) (by decide) ?_
        refine lv_aload_n hx hb dX6_tellOfStores_52 rfl (lv_at hl 0 rfl) ?_
        replace h := pt_b2s h; obtain ⟨r5, σ5, e5, h⟩ := h
        refine pt_cVi (As := []) (rest := []) S (m_X6_joinedBytes l hDa e5) (cwV 0 S.2.2.2.2 gX6_tellOfStores_X6_joinedBytes rfl rfl rfl (by decide +kernel) ⟨Nat.le_of_ble_eq_true rfl, Nat.le_of_ble_eq_true rfl⟩) hK hP hS hZ 5 6 rfl rfl rfl hl.1 rfl (Nat.le_of_ble_eq_true rfl) dX6_tellOfStores_53 ⟨Nat.zero_le _, Nat.zero_le _⟩ (fun H locs hP hS => ?_)
        exact pt_iret S hr hlk hP hS (pt_pr h).1 (congrArg (wC ca ad) (pt_pr h).2) dX6_tellOfStores_56
      · replace h := pt_iN c4 h
        by_cases c6 : a1 = (3 : Int32)
        · replace h := pt_ip c6 h
          refine lv_tableIn (off := 56) (tgt := 57) hx hb dX6_tellOfStores_1 (by rw [c6]; decide) (by rw [c6]; decide) (by rw [c6]; rfl) (by decide) ?_
          refine lv_aload_n hx hb dX6_tellOfStores_57 rfl (lv_at hl 0 rfl) ?_
          refine gf_X6_3 S hiX6 hK hP hf20 dX6_tellOfStores_58 ?_
          refine gfN_X1_2 S hiX1 hK hP (List.mem_of_getElem? (i := 1) rfl) dX6_tellOfStores_61 ?_
          exact pt_iret S hr hlk hP hS (pt_pr h).1 (congrArg (wC ca ad) (pt_pr h).2) dX6_tellOfStores_64
        · replace h := pt_iN c6 h
          by_cases c7 : a1 = (4 : Int32)
          · replace h := pt_ip c7 h
            refine lv_tableIn (off := 64) (tgt := 65) hx hb dX6_tellOfStores_1 (by rw [c7]; decide) (by rw [c7]; decide) (by rw [c7]; rfl) (by decide) ?_
            refine lv_aload_n hx hb dX6_tellOfStores_65 rfl (lv_at hl 0 rfl) ?_
            refine gf_X6_3 S hiX6 hK hP hf20 dX6_tellOfStores_66 ?_
            refine gfN_X1_1 S hiX1 hK hP (List.mem_of_getElem? (i := 0) rfl) dX6_tellOfStores_69 ?_
            exact pt_iret S hr hlk hP hS (pt_pr h).1 (congrArg (wC ca ad) (pt_pr h).2) dX6_tellOfStores_72
          · replace h := pt_iN c7 h
            refine lv_tableOut (tgt := 73) hx hb dX6_tellOfStores_1 (by have q0 := lv_neT c1 (a := 0) (by decide); have q1 := lv_neT c3 (a := 1) (by decide); have q2 := lv_neT c4 (a := 2) (by decide); have q3 := lv_neT c6 (a := 3) (by decide); have q4 := lv_neT c7 (a := 4) (by decide); omega) (by decide) ?_
            refine lv_aload_n hx hb dX6_tellOfStores_73 rfl (lv_at hl 0 rfl) ?_
            refine gf_X6_4 S hiX6 hK hP hf27 dX6_tellOfStores_74 ?_
            refine gfN_X4_1 S hiX4 hK hP (List.mem_of_getElem? (i := 2) rfl) dX6_tellOfStores_77 ?_
            exact pt_iret S hr hlk hP hS (pt_pr h).1 (congrArg (wC ca ad) (pt_pr h).2) dX6_tellOfStores_80

def f_X6_tellOfCourse (σ : pt_St) (a1 : Int32) : Option (Int32 × pt_St) :=
  if a1 = (6 : Int32) then
  some ((σ 5 9), σ)
  else
  if a1 = (7 : Int32) then
  some ((σ 5 10), σ)
  else
  if a1 = (8 : Int32) then
  some ((σ 5 11), σ)
  else
  if a1 = (9 : Int32) then
  some ((σ 5 12), σ)
  else
  some ((σ 8 2), σ)
set_option maxHeartbeats 4000000 in
set_option maxRecDepth 100000 in
theorem m_X6_tellOfCourse (l : Launch) {D : va_G} {A : Nat → Prop} {ca : Nat → ClassId} {ad : Nat → Nat} {z : Nat × Nat} (hDa : ∀ σ, va_D A (wC ca ad σ)) {σ σ' : pt_St} {r : Int32} {a1 : Int32} (h : f_X6_tellOfCourse σ a1 = some (r, σ')) : Met l yX6_tellOfCourse wsX6_tellOfCourse { frames := 0, cells := 0, slots := 0, locals := 0 } (va_Pc [.ref (ad 5), .int a1] (pt_Pre D (tysC ca) z A (wC ca ad σ))) (pt_Q (some (.int r)) D (wC ca ad σ') A) 0 0 A := by
  refine Met.ofW (cc := cX6_tellOfCourse) (maxL := 2) (ret := (some .int)) (by decide) rfl ?_
  intro p e s m args below meth c s₁ B hml hv
  obtain ⟨rfl, hP, hK, hZ⟩ := hv
  have S : CallFix p m c cX6_tellOfCourse 2 s ([.ref (ad 5), .int a1] : List Value).toArray wsX6_tellOfCourse RX6 := ⟨B.exec, B.bytes, hml, findClass_of_methodNamed B.named, atoms_spec (ws := wsX6_tellOfCourse) B.pre⟩
  have hx := S.1
  have hb := S.2.1
  have hr := B.returns
  have hlk := B.notSynchronized
  clear B
  have hiX6 : ∀ w ∈ wsX60, w ∈ wsX6_tellOfCourse := fun w h => List.mem_cons_of_mem _ (List.mem_append_left _ (List.mem_append_right _ h))
  have hiX0 : ∀ w ∈ wsX00, w ∈ wsX6_tellOfCourse := fun w h => List.mem_cons_of_mem _ (List.mem_append_right _ h)
  have hf68 : (Cond.fieldLink RX6 68 "PackThreads$Stream" "stoppedAt" "I").before _ s = true := S.2.2.2.2 _ (List.mem_of_getElem? (i := 1) rfl)
  have hf71 : (Cond.fieldLink RX6 71 "PackThreads$Stream" "stoppedKind" "I").before _ s = true := S.2.2.2.2 _ (List.mem_of_getElem? (i := 2) rfl)
  have hf74 : (Cond.fieldLink RX6 74 "PackThreads$Stream" "failures" "I").before _ s = true := S.2.2.2.2 _ (List.mem_of_getElem? (i := 3) rfl)
  have hf77 : (Cond.fieldLink RX6 77 "PackThreads$Stream" "turnsDone" "I").before _ s = true := S.2.2.2.2 _ (List.mem_of_getElem? (i := 4) rfl)
  have hf34 : (Cond.fieldLink RX6 34 "PackThreads$Stream" "failed" "LPackThreads$Failed;").before _ s = true := S.2.2.2.2 _ (List.mem_of_getElem? (i := 5) rfl)
  have hS : va_S A s.heap s.heap [] := va_S.rf
  have hl := lv_entry ([.ref (ad 5), .int a1]) (n := 2) (Nat.le_of_ble_eq_true rfl)
  rw [lg_entry_eq]
  generalize (lg_sl ([.ref (ad 5), .int a1]) ++ List.replicate (2 - (lg_sl ([.ref (ad 5), .int a1])).length) Slot.unset).toArray = ls at hl ⊢
  have hl : lv_has ls 2 [(0, .ref (ad 5)), (1, .int a1)] := hl
  unfold f_X6_tellOfCourse at h
  refine lv_iload_n hx hb dX6_tellOfCourse_0 rfl (lv_at hl 1 rfl) ?_
  by_cases c1 : a1 = (6 : Int32)
  · replace h := pt_ip c1 h
    refine lv_tableIn (off := 31) (tgt := 32) hx hb dX6_tellOfCourse_1 (by rw [c1]; decide) (by rw [c1]; decide) (by rw [c1]; rfl) (by decide) ?_
    refine lv_aload_n hx hb dX6_tellOfCourse_32 rfl (lv_at hl 0 rfl) ?_
    refine gf_X6_9 S hiX6 hK hP hf68 dX6_tellOfCourse_33 ?_
    exact pt_iret S hr hlk hP hS (pt_pr h).1 (congrArg (wC ca ad) (pt_pr h).2) dX6_tellOfCourse_36
  · replace h := pt_iN c1 h
    by_cases c2 : a1 = (7 : Int32)
    · replace h := pt_ip c2 h
      refine lv_tableIn (off := 36) (tgt := 37) hx hb dX6_tellOfCourse_1 (by rw [c2]; decide) (by rw [c2]; decide) (by rw [c2]; rfl) (by decide) ?_
      refine lv_aload_n hx hb dX6_tellOfCourse_37 rfl (lv_at hl 0 rfl) ?_
      refine gf_X6_10 S hiX6 hK hP hf71 dX6_tellOfCourse_38 ?_
      exact pt_iret S hr hlk hP hS (pt_pr h).1 (congrArg (wC ca ad) (pt_pr h).2) dX6_tellOfCourse_41
    · replace h := pt_iN c2 h
      by_cases c3 : a1 = (8 : Int32)
      · replace h := pt_ip c3 h
        refine lv_tableIn (off := 41) (tgt := 42) hx hb dX6_tellOfCourse_1 (by rw [c3]; decide) (by rw [c3]; decide) (by rw [c3]; rfl) (by decide) ?_
        refine lv_aload_n hx hb dX6_tellOfCourse_42 rfl (lv_at hl 0 rfl) ?_
        refine gf_X6_11 S hiX6 hK hP hf74 dX6_tellOfCourse_43 ?_
        exact pt_iret S hr hlk hP hS (pt_pr h).1 (congrArg (wC ca ad) (pt_pr h).2) dX6_tellOfCourse_46
      · replace h := pt_iN c3 h
        by_cases c4 : a1 = (9 : Int32)
        · replace h := pt_ip c4 h
          refine lv_tableIn (off := 46) (tgt := 47) hx hb dX6_tellOfCourse_1 (by rw [c4]; decide) (by rw [c4]; decide) (by rw [c4]; rfl) (by decide) ?_
          refine lv_aload_n hx hb dX6_tellOfCourse_47 rfl (lv_at hl 0 rfl) ?_
          refine gf_X6_12 S hiX6 hK hP hf77 dX6_tellOfCourse_48 ?_
          exact pt_iret S hr hlk hP hS (pt_pr h).1 (congrArg (wC ca ad) (pt_pr h).2) dX6_tellOfCourse_51
        · replace h := pt_iN c4 h
          refine lv_tableOut (tgt := 52) hx hb dX6_tellOfCourse_1 (by have q0 := lv_neT c1 (a := 6) (by decide); have q1 := lv_neT c2 (a := 7) (by decide); have q2 := lv_neT c3 (a := 8) (by decide); have q3 := lv_neT c4 (a := 9) (by decide); omega) (by decide) ?_
          refine lv_aload_n hx hb dX6_tellOfCourse_52 rfl (lv_at hl 0 rfl) ?_
          refine gf_X6_5 S hiX6 hK hP hf34 dX6_tellOfCourse_53 ?_
          refine gfN_X0_2 S hiX0 hK hP (List.mem_of_getElem? (i := 4) rfl) dX6_tellOfCourse_56 ?_
          exact pt_iret S hr hlk hP hS (pt_pr h).1 (congrArg (wC ca ad) (pt_pr h).2) dX6_tellOfCourse_59
