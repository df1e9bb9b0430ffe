def f_X2_forget (σ : pt_St) : Option pt_St :=
  pt_do (pt_put σ 4 8 (0 : Int32)) fun σ1 =>
  some σ1
set_option maxHeartbeats 4000000 in
set_option maxRecDepth 100000 in
theorem m_X2_forget (l : Launch) {D : va_G} {A : Nat → Prop} {ca : Nat → ClassId} {ad : Nat → Nat} {z : Nat × Nat} (hDa : ∀ σ, va_D A (wC ca ad σ)) {σ σ' : pt_St} (h : f_X2_forget σ = some σ') : Met l yX2_forget wsX2_forget { frames := 0, cells := 0, slots := 0, locals := 0 } (va_Pc [.ref (ad 4)] (pt_Pre D (tysC ca) z A (wC ca ad σ))) (pt_Q none D (wC ca ad σ') A) 0 0 A := by
  refine Met.ofW (cc := cX2_forget) (maxL := 1) (ret := none) (by decide) rfl ?_
  intro p e s m args below meth c s₁ B hml hv
  obtain ⟨rfl, hP, hK, hZ⟩ := hv
  have S : CallFix p m c cX2_forget 1 s ([.ref (ad 4)] : List Value).toArray wsX2_forget RX2 := ⟨B.exec, B.bytes, hml, findClass_of_methodNamed B.named, atoms_spec (ws := wsX2_forget) B.pre⟩
  have hx := S.1
  have hb := S.2.1
  have hr := B.returns
  have hlk := B.notSynchronized
  clear B
  have hiX2 : ∀ w ∈ wsX20, w ∈ wsX2_forget := fun w h => List.mem_cons_of_mem _ (List.mem_append_right _ h)
  have hf29 : (Cond.fieldLink RX2 29 "PackThreads$Packs" "made" "Z").before _ s = true := S.2.2.2.2 _ (List.mem_of_getElem? (i := 1) rfl)
  have hS : va_S A s.heap s.heap [] := va_S.rf
  have hl := lv_entry ([.ref (ad 4)]) (n := 1) (Nat.le_of_ble_eq_true rfl)
  rw [lg_entry_eq]
  generalize (lg_sl ([.ref (ad 4)]) ++ List.replicate (1 - (lg_sl ([.ref (ad 4)])).length) Slot.unset).toArray = ls at hl ⊢
  have hl : lv_has ls 1 [(0, .ref (ad 4))] := hl
  unfold f_X2_forget at h
  refine lv_aload_n hx hb dX2_forget_0 rfl (lv_at hl 0 rfl) ?_
  refine lv_iconst (v := 0) hx hb dX2_forget_1 (by decide) ?_
  replace h := pt_dos h; obtain ⟨σ1, e1, h⟩ := h
  refine pf_X2_8 S hiX2 hK hP hDa hS hf29 (Or.inl rfl) e1 dX2_forget_2 (fun H locs hP hS => ?_)
  exact pt_vret S hr hlk hP hS (congrArg (wC ca ad) (pt_so h)) dX2_forget_5

def f_X2_blocksOfText (σ : pt_St) : Option (Int32 × pt_St) :=
  pt_b2 (f_X5_size σ) fun r1 σ1 =>
  if (0 : Int32) < r1 then
  pt_b2 (f_X7_length σ1) fun r3 σ3 =>
  if ¬ r1 = 0 then
  some ((((r3 + r1) - (1 : Int32)) / r1), σ3)
  else none
  else
  some ((0 : Int32), σ1)
set_option maxHeartbeats 4000000 in
set_option maxRecDepth 100000 in
theorem m_X2_blocksOfText (l : Launch) {D : va_G} {A : Nat → Prop} {ca : Nat → ClassId} {ad : Nat → Nat} {z : Nat × Nat} (hDa : ∀ σ, va_D A (wC ca ad σ)) {σ σ' : pt_St} {r : Int32} (h : f_X2_blocksOfText σ = some (r, σ')) : Met l yX2_blocksOfText wsX2_blocksOfText { frames := 1, cells := 0, slots := 0, locals := 20 } (va_Pc [.ref (ad 4)] (pt_Pre D (tysC ca) z A (wC ca ad σ))) (pt_Q (some (.int r)) D (wC ca ad σ') A) 0 0 A := by
  refine Met.ofW (cc := cX2_blocksOfText) (maxL := 2) (ret := (some .int)) (by decide) rfl ?_
  intro p e s m args below meth c s₁ B hml hv
  obtain ⟨rfl, hP, hK, hZ⟩ := hv
  have S : CallFix p m c cX2_blocksOfText 2 s ([.ref (ad 4)] : List Value).toArray wsX2_blocksOfText RX2 := ⟨B.exec, B.bytes, hml, findClass_of_methodNamed B.named, atoms_spec (ws := wsX2_blocksOfText) B.pre⟩
  have hx := S.1
  have hb := S.2.1
  have hr := B.returns
  have hlk := B.notSynchronized
  clear B
  have hiX2 : ∀ w ∈ wsX20, w ∈ wsX2_blocksOfText := fun w h => List.mem_cons_of_mem _ (List.mem_append_left _ (List.mem_append_left _ (List.mem_append_right _ h)))
  have hiX5 : ∀ w ∈ wsX50, w ∈ wsX2_blocksOfText := fun w h => List.mem_cons_of_mem _ (List.mem_append_left _ (List.mem_append_right _ h))
  have hiX7 : ∀ w ∈ wsX70, w ∈ wsX2_blocksOfText := fun w h => List.mem_cons_of_mem _ (List.mem_append_right _ h)
  have hf25 : (Cond.fieldLink RX2 25 "PackThreads$Packs" "settings" "LPackThreads$Settings;").before _ s = true := S.2.2.2.2 _ (List.mem_of_getElem? (i := 1) rfl)
  have hf21 : (Cond.fieldLink RX2 21 "PackThreads$Packs" "text" "LPackThreads$Text;").before _ s = true := S.2.2.2.2 _ (List.mem_of_getElem? (i := 2) rfl)
  have hS : va_S A s.heap s.heap [] := va_S.rf
  have hl := lv_entry ([.ref (ad 4)]) (n := 2) (Nat.le_of_ble_eq_true rfl)
  rw [lg_entry_eq]
  generalize (lg_sl ([.ref (ad 4)]) ++ List.replicate (2 - (lg_sl ([.ref (ad 4)])).length) Slot.unset).toArray = ls at hl ⊢
  have hl : lv_has ls 2 [(0, .ref (ad 4))] := hl
  unfold f_X2_blocksOfText at h
  refine lv_aload_n hx hb dX2_blocksOfText_0 rfl (lv_at hl 0 rfl) ?_
  refine gf_X2_1 S hiX2 hK hP hf25 dX2_blocksOfText_1 ?_
  replace h := pt_b2s h; obtain ⟨r1, σ1, e1, h⟩ := h
  refine pt_cVi (As := []) (rest := []) S (m_X5_size l hDa e1) (cwV 0 S.2.2.2.2 gX2_blocksOfText_X5_size rfl rfl rfl (by decide +kernel) ⟨Nat.le_of_ble_eq_true rfl, Nat.le_of_ble_eq_true rfl⟩) hK hP hS hZ 2 5 rfl rfl rfl hl.1 rfl (Nat.le_of_ble_eq_true rfl) dX2_blocksOfText_4 ⟨Nat.zero_le _, Nat.zero_le _⟩ (fun H locs hP hS => ?_)
  refine lv_istore_n (lv' := [(1, .int r1), (0, .ref (ad 4))]) hx hb dX2_blocksOfText_7 rfl hl (by decide) rfl (fun ls hl => ?_)
  refine lv_iload_n hx hb dX2_blocksOfText_8 rfl (lv_at hl 0 rfl) ?_
  refine lv_if_gt (tgt := 16) hx hb dX2_blocksOfText_9 (by decide) (fun c2 => ?_) (fun c2 => ?_)
  · replace h := pt_ip c2 h
    refine lv_aload_n hx hb dX2_blocksOfText_16 rfl (lv_at hl 1 rfl) ?_
    refine gf_X2_0 S hiX2 hK hP hf21 dX2_blocksOfText_17 ?_
    replace h := pt_b2s h; obtain ⟨r3, σ3, e3, h⟩ := h
    refine pt_cVi (As := []) (rest := []) S (m_X7_length l hDa e3) (cwV 0 S.2.2.2.2 gX2_blocksOfText_X7_length rfl rfl rfl (by decide +kernel) ⟨Nat.le_of_ble_eq_true rfl, Nat.le_of_ble_eq_true rfl⟩) hK hP hS hZ 1 7 rfl rfl rfl hl.1 rfl (Nat.le_of_ble_eq_true rfl) dX2_blocksOfText_20 ⟨Nat.zero_le _, Nat.zero_le _⟩ (fun H locs hP hS => ?_)
    refine lv_iload_n hx hb dX2_blocksOfText_23 rfl (lv_at hl 0 rfl) ?_
    refine lv_iadd hx hb dX2_blocksOfText_24 ?_
    refine lv_iconst (v := 1) hx hb dX2_blocksOfText_25 (by decide) ?_
    refine lv_isub hx hb dX2_blocksOfText_26 ?_
    refine lv_iload_n hx hb dX2_blocksOfText_27 rfl (lv_at hl 0 rfl) ?_
    replace h := pt_gd h; obtain ⟨g4, h⟩ := h
    refine lv_idiv hx hb dX2_blocksOfText_28 g4 ?_
    exact pt_iret S hr hlk hP hS (pt_pr h).1 (congrArg (wC ca ad) (pt_pr h).2) dX2_blocksOfText_29
  · replace h := pt_iN c2 h
    refine lv_iconst (v := 0) hx hb dX2_blocksOfText_12 (by decide) ?_
    refine lv_goto (tgt := 29) hx hb dX2_blocksOfText_13 (by decide) ?_
    exact pt_iret S hr hlk hP hS (pt_pr h).1 (congrArg (wC ca ad) (pt_pr h).2) dX2_blocksOfText_29

def f_X2_bytesOf (σ : pt_St) (a1 : Int32) : Option (Int32 × pt_St) :=
  pt_b2 (f_X5_size σ) fun r1 σ1 =>
  pt_b2 (f_X7_length σ1) fun r2 σ2 =>
  some ((if (0 : Int32) < (if (r2 - (a1 * r1)) < r1 then (r2 - (a1 * r1)) else r1) then (if (r2 - (a1 * r1)) < r1 then (r2 - (a1 * r1)) else r1) else (0 : Int32)), σ2)
set_option maxHeartbeats 4000000 in
set_option maxRecDepth 100000 in
theorem m_X2_bytesOf (l : Launch) {D : va_G} {A : Nat → Prop} {ca : Nat → ClassId} {ad : Nat → Nat} {z : Nat × Nat} (hDa : ∀ σ, va_D A (wC ca ad σ)) {σ σ' : pt_St} {r : Int32} {a1 : Int32} (h : f_X2_bytesOf σ a1 = some (r, σ')) : Met l yX2_bytesOf wsX2_bytesOf { frames := 1, cells := 0, slots := 0, locals := 24 } (va_Pc [.ref (ad 4), .int a1] (pt_Pre D (tysC ca) z A (wC ca ad σ))) (pt_Q (some (.int r)) D (wC ca ad σ') A) 0 0 A := by
  refine Met.ofW (cc := cX2_bytesOf) (maxL := 3) (ret := (some .int)) (by decide) rfl ?_
  intro p e s m args below meth c s₁ B hml hv
  obtain ⟨rfl, hP, hK, hZ⟩ := hv
  have S : CallFix p m c cX2_bytesOf 3 s ([.ref (ad 4), .int a1] : List Value).toArray wsX2_bytesOf RX2 := ⟨B.exec, B.bytes, hml, findClass_of_methodNamed B.named, atoms_spec (ws := wsX2_bytesOf) B.pre⟩
  have hx := S.1
  have hb := S.2.1
  have hr := B.returns
  have hlk := B.notSynchronized
  clear B
  have hiX2 : ∀ w ∈ wsX20, w ∈ wsX2_bytesOf := fun w h => List.mem_cons_of_mem _ (List.mem_append_left _ (List.mem_append_left _ (List.mem_append_right _ h)))
  have hiX5 : ∀ w ∈ wsX50, w ∈ wsX2_bytesOf := fun w h => List.mem_cons_of_mem _ (List.mem_append_left _ (List.mem_append_right _ h))
  have hiX7 : ∀ w ∈ wsX70, w ∈ wsX2_bytesOf := fun w h => List.mem_cons_of_mem _ (List.mem_append_right _ h)
  have hf25 : (Cond.fieldLink RX2 25 "PackThreads$Packs" "settings" "LPackThreads$Settings;").before _ s = true := S.2.2.2.2 _ (List.mem_of_getElem? (i := 1) rfl)
  have hf21 : (Cond.fieldLink RX2 21 "PackThreads$Packs" "text" "LPackThreads$Text;").before _ s = true := S.2.2.2.2 _ (List.mem_of_getElem? (i := 2) rfl)
  have hm94 : (Cond.methodLink RX2 94 Lib.Math.min.name).before _ s = true := S.2.2.2.2 _ (List.mem_of_getElem? (i := 3) rfl)
  have hs_min : (Cond.static Lib.Math.min.name).before _ s = true := S.2.2.2.2 _ (List.mem_of_getElem? (i := 4) rfl)
  have hi_math : (Cond.initialized "java/lang/Math").before _ s = true := S.2.2.2.2 _ (List.mem_of_getElem? (i := 5) rfl)
  have hc_min : (Cond.code Lib.Math.min.name Lib.Math.min.code 2 (some .int)).before _ s = true := S.2.2.2.2 _ (List.mem_of_getElem? (i := 6) rfl)
  have hm83 : (Cond.methodLink RX2 83 Lib.Math.max.name).before _ s = true := S.2.2.2.2 _ (List.mem_of_getElem? (i := 7) rfl)
  have hs_max : (Cond.static Lib.Math.max.name).before _ s = true := S.2.2.2.2 _ (List.mem_of_getElem? (i := 8) rfl)
  have hc_max : (Cond.code Lib.Math.max.name Lib.Math.max.code 2 (some .int)).before _ s = true := S.2.2.2.2 _ (List.mem_of_getElem? (i := 9) rfl)
  have hS : va_S A s.heap s.heap [] := va_S.rf
  have hl := lv_entry ([.ref (ad 4), .int a1]) (n := 3) (Nat.le_of_ble_eq_true rfl)
  rw [lg_entry_eq]
  generalize (lg_sl ([.ref (ad 4), .int a1]) ++ List.replicate (3 - (lg_sl ([.ref (ad 4), .int a1])).length) Slot.unset).toArray = ls at hl ⊢
  have hl : lv_has ls 3 [(0, .ref (ad 4)), (1, .int a1)] := hl
  unfold f_X2_bytesOf at h
  refine lv_aload_n hx hb dX2_bytesOf_0 rfl (lv_at hl 0 rfl) ?_
  refine gf_X2_1 S hiX2 hK hP hf25 dX2_bytesOf_1 ?_
  replace h := pt_b2s h; obtain ⟨r1, σ1, e1, h⟩ := h
  refine pt_cVi (As := []) (rest := []) S (m_X5_size l hDa e1) (cwV 0 S.2.2.2.2 gX2_bytesOf_X5_size rfl rfl rfl (by decide +kernel) ⟨Nat.le_of_ble_eq_true rfl, Nat.le_of_ble_eq_true rfl⟩) hK hP hS hZ 2 5 rfl rfl rfl hl.1 rfl (Nat.le_of_ble_eq_true rfl) dX2_bytesOf_4 ⟨Nat.zero_le _, Nat.zero_le _⟩ (fun H locs hP hS => ?_)
  refine lv_istore_n (lv' := [(2, .int r1), (0, .ref (ad 4)), (1, .int a1)]) hx hb dX2_bytesOf_7 rfl hl (by decide) rfl (fun ls hl => ?_)
  refine lv_iconst (v := 0) hx hb dX2_bytesOf_8 (by decide) ?_
  refine lv_iload_n hx hb dX2_bytesOf_9 rfl (lv_at hl 0 rfl) ?_
  refine lv_aload_n hx hb dX2_bytesOf_10 rfl (lv_at hl 1 rfl) ?_
  refine gf_X2_0 S hiX2 hK hP hf21 dX2_bytesOf_11 ?_
  replace h := pt_b2s h; obtain ⟨r2, σ2, e2, h⟩ := h
  refine pt_cVi (As := []) (rest := [.int r1, .int (0 : Int32)]) S (m_X7_length l hDa e2) (cwV 0 S.2.2.2.2 gX2_bytesOf_X7_length rfl rfl rfl (by decide +kernel) ⟨Nat.le_of_ble_eq_true rfl, Nat.le_of_ble_eq_true rfl⟩) hK hP hS hZ 1 7 rfl rfl rfl hl.1 rfl (Nat.le_of_ble_eq_true rfl) dX2_bytesOf_14 ⟨Nat.zero_le _, Nat.zero_le _⟩ (fun H locs hP hS => ?_)
  refine lv_iload_n hx hb dX2_bytesOf_17 rfl (lv_at hl 2 rfl) ?_
  refine lv_iload_n hx hb dX2_bytesOf_18 rfl (lv_at hl 0 rfl) ?_
  refine lv_imul hx hb dX2_bytesOf_19 ?_
  refine lv_isub hx hb dX2_bytesOf_20 ?_
  refine va_mmin hx hb (S.2.2.1.trans hl.1.symm) S.2.2.2.1 hm94 hs_min hi_math hc_min (Nat.le_of_ble_eq_true rfl) (Nat.le_of_ble_eq_true rfl) (Nat.zero_le _) (Nat.zero_le _) dX2_bytesOf_21 ?_
  refine va_mmax hx hb (S.2.2.1.trans hl.1.symm) S.2.2.2.1 hm83 hs_max hi_math hc_max (Nat.le_of_ble_eq_true rfl) (Nat.le_of_ble_eq_true rfl) (Nat.zero_le _) (Nat.zero_le _) dX2_bytesOf_24 ?_
  exact pt_iret S hr hlk hP hS (pt_pr h).1 (congrArg (wC ca ad) (pt_pr h).2) dX2_bytesOf_27

def lp_X2_alike_3 (k : pt_St → Int32 → Option (Int32 × pt_St)) (a1 : Int32) (a2 : Int32) (a3 : Int32) : Nat → pt_St → Int32 → Option (Int32 × pt_St)
  | 0, _, _ => none
  | n + 1, σ, x4 =>
    if a2 ≤ x4 then
    k σ x4
    else
    pt_b2 (f_X7_at σ x4) fun r4002 σ4002 =>
    pt_b2 (f_X7_at σ4002 (x4 - a3)) fun r4003 σ4003 =>
    if r4002 = r4003 then
    lp_X2_alike_3 k a1 a2 a3 n σ4003 (x4 + (1 : Int32))
    else
    k σ4003 x4
def kx_X2_alike_3 (a1 : Int32) (a2 : Int32) (a3 : Int32) (σ : pt_St) (x4 : Int32) : Option (Int32 × pt_St) :=
  some ((x4 - a1), σ)
def f_X2_alike (σ : pt_St) (a1 : Int32) (a2 : Int32) (a3 : Int32) : Option (Int32 × pt_St) :=
  lp_X2_alike_3 (kx_X2_alike_3 a1 a2 a3) a1 a2 a3 pt_F σ a1
set_option maxHeartbeats 4000000 in
set_option maxRecDepth 100000 in
theorem m_X2_alike (l : Launch) {D : va_G} {A : Nat → Prop} {ca : Nat → ClassId} {ad : Nat → Nat} {z : Nat × Nat} (hDa : ∀ σ, va_D A (wC ca ad σ)) {σ σ' : pt_St} {r : Int32} {a1 : Int32} {a2 : Int32} {a3 : Int32} (h : f_X2_alike σ a1 a2 a3 = some (r, σ')) : Met l yX2_alike wsX2_alike { frames := 1, cells := 0, slots := 0, locals := 21 } (va_Pc [.ref (ad 4), .int a1, .int a2, .int a3] (pt_Pre D (tysC ca) z A (wC ca ad σ))) (pt_Q (some (.int r)) D (wC ca ad σ') A) 0 0 A := by
  refine Met.ofW (cc := cX2_alike) (maxL := 5) (ret := (some .int)) (by decide) rfl ?_
  intro p e s m args below meth c s₁ B hml hv
  obtain ⟨rfl, hP, hK, hZ⟩ := hv
  have S : CallFix p m c cX2_alike 5 s ([.ref (ad 4), .int a1, .int a2, .int a3] : List Value).toArray wsX2_alike RX2 := ⟨B.exec, B.bytes, hml, findClass_of_methodNamed B.named, atoms_spec (ws := wsX2_alike) B.pre⟩
  have hx := S.1
  have hb := S.2.1
  have hr := B.returns
  have hlk := B.notSynchronized
  clear B
  have hiX2 : ∀ w ∈ wsX20, w ∈ wsX2_alike := fun w h => List.mem_cons_of_mem _ (List.mem_append_left _ (List.mem_append_right _ h))
  have hiX7 : ∀ w ∈ wsX70, w ∈ wsX2_alike := fun w h => List.mem_cons_of_mem _ (List.mem_append_right _ h)
  have hf21 : (Cond.fieldLink RX2 21 "PackThreads$Packs" "text" "LPackThreads$Text;").before _ s = true := S.2.2.2.2 _ (List.mem_of_getElem? (i := 1) rfl)
  have hS : va_S A s.heap s.heap [] := va_S.rf
  have hl := lv_entry ([.ref (ad 4), .int a1, .int a2, .int a3]) (n := 5) (Nat.le_of_ble_eq_true rfl)
  rw [lg_entry_eq]
  generalize (lg_sl ([.ref (ad 4), .int a1, .int a2, .int a3]) ++ List.replicate (5 - (lg_sl ([.ref (ad 4), .int a1, .int a2, .int a3])).length) Slot.unset).toArray = ls at hl ⊢
  have hl : lv_has ls 5 [(0, .ref (ad 4)), (1, .int a1), (2, .int a2), (3, .int a3)] := hl
  unfold f_X2_alike at h
  refine lv_iload_n hx hb dX2_alike_0 rfl (lv_at hl 1 rfl) ?_
  refine lv_istore (lv' := [(4, .int a1), (0, .ref (ad 4)), (1, .int a1), (2, .int a2), (3, .int a3)]) hx hb dX2_alike_1 hl (by decide) rfl (fun ls hl => ?_)
  have X3 : ∀ (σ : pt_St) (x4 : Int32), kx_X2_alike_3 a1 a2 a3 σ x4 = some (r, σ') → ∀ (H : Heap) (locs : List Loc) (ls : Array Slot), va_P D vwCl (wC ca ad σ) H → va_S A s.heap H locs → lv_has ls 5 [(0, .ref (ad 4)), (1, .int a1), (2, .int a2), (3, .int a3), (4, .int x4)] → W p l e (headSpec wsX2_alike { frames := 1, cells := 0, slots := 0, locals := 21 }).room s m ([.ref (ad 4), .int a1, .int a2, .int a3] : List Value).toArray below meth c H locs 0 0 (MQ below (pt_Q (some (.int r)) D (wC ca ad σ') A) ([.ref (ad 4), .int a1, .int a2, .int a3] : List Value).toArray s 0 0 A) (F0 m 38 ls []) := by
    intro σ x4 h H locs ls hP hS hl
    unfold kx_X2_alike_3 at h
    refine lv_iload hx hb dX2_alike_38 (lv_at hl 4 rfl) ?_
    refine lv_iload_n hx hb dX2_alike_40 rfl (lv_at hl 1 rfl) ?_
    refine lv_isub hx hb dX2_alike_41 ?_
    exact pt_iret S hr hlk hP hS (pt_pr h).1 (congrArg (wC ca ad) (pt_pr h).2) dX2_alike_42
  have L3 : ∀ (n : Nat) (σ : pt_St) (x4 : Int32),  lp_X2_alike_3 (kx_X2_alike_3 a1 a2 a3) a1 a2 a3 n σ x4 = some (r, σ') → ∀ (H : Heap) (locs : List Loc) (ls : Array Slot), va_P D vwCl (wC ca ad σ) H → va_S A s.heap H locs → lv_has ls 5 [(0, .ref (ad 4)), (1, .int a1), (2, .int a2), (3, .int a3), (4, .int x4)] → W p l e (headSpec wsX2_alike { frames := 1, cells := 0, slots := 0, locals := 21 }).room s m ([.ref (ad 4), .int a1, .int a2, .int a3] : List Value).toArray below meth c H locs 0 0 (MQ below (pt_Q (some (.int r)) D (wC ca ad σ') A) ([.ref (ad 4), .int a1, .int a2, .int a3] : List Value).toArray s 0 0 A) (F0 m 3 ls []) := by
    intro n
    induction n with
    | zero => intro σ x4 h; cases h
    | succ n ih0 =>
      intro σ x4 h H locs ls hP hS hl
      rw [lp_X2_alike_3] at h
      refine lv_iload hx hb dX2_alike_3 (lv_at hl 4 rfl) ?_
      refine lv_iload_n hx hb dX2_alike_5 rfl (lv_at hl 2 rfl) ?_
      refine lv_icmp_ge (tgt := 38) hx hb dX2_alike_6 (by decide) (fun c4001 => ?_) (fun c4001 => ?_)
      · replace h := pt_ip c4001 h
        exact X3 _ _ h _ _ _ hP hS (lv_sub hl [0, 1, 2, 3, 4] rfl)
      · replace h := pt_iN c4001 h
        refine lv_aload_n hx hb dX2_alike_9 rfl (lv_at hl 0 rfl) ?_
        refine gf_X2_0 S hiX2 hK hP hf21 dX2_alike_10 ?_
        refine lv_iload hx hb dX2_alike_13 (lv_at hl 4 rfl) ?_
        replace h := pt_b2s h; obtain ⟨r4002, σ4002, e4002, h⟩ := h
        refine pt_cVi (As := [.int x4]) (rest := []) S (m_X7_at l hDa e4002) (cwV 1 S.2.2.2.2 gX2_alike_X7_at rfl rfl rfl (by decide +kernel) ⟨Nat.le_of_ble_eq_true rfl, Nat.le_of_ble_eq_true rfl⟩) hK hP hS hZ 1 7 rfl rfl rfl hl.1 rfl (Nat.le_of_ble_eq_true rfl) dX2_alike_15 ⟨Nat.zero_le _, Nat.zero_le _⟩ (fun H locs hP hS => ?_)
        refine lv_aload_n hx hb dX2_alike_18 rfl (lv_at hl 0 rfl) ?_
        refine gf_X2_0 S hiX2 hK hP hf21 dX2_alike_19 ?_
        refine lv_iload hx hb dX2_alike_22 (lv_at hl 4 rfl) ?_
        refine lv_iload_n hx hb dX2_alike_24 rfl (lv_at hl 3 rfl) ?_
        refine lv_isub hx hb dX2_alike_25 ?_
        replace h := pt_b2s h; obtain ⟨r4003, σ4003, e4003, h⟩ := h
        refine pt_cVi (As := [.int (x4 - a3)]) (rest := [.int r4002]) S (m_X7_at l hDa e4003) (cwV 1 S.2.2.2.2 gX2_alike_X7_at rfl rfl rfl (by decide +kernel) ⟨Nat.le_of_ble_eq_true rfl, Nat.le_of_ble_eq_true rfl⟩) hK hP hS hZ 1 7 rfl rfl rfl hl.1 rfl (Nat.le_of_ble_eq_true rfl) dX2_alike_26 ⟨Nat.zero_le _, Nat.zero_le _⟩ (fun H locs hP hS => ?_)
        refine lv_icmp_ne (tgt := 38) hx hb dX2_alike_29 (by decide) (fun c4004 => ?_) (fun c4004 => ?_)
        · replace h := pt_iN c4004 h
          exact X3 _ _ h _ _ _ hP hS (lv_sub hl [0, 1, 2, 3, 4] rfl)
        · replace h := pt_ip c4004 h
          refine lv_iinc (v := x4 + (1 : Int32)) (lv' := [(4, .int (x4 + (1 : Int32))), (0, .ref (ad 4)), (1, .int a1), (2, .int a2), (3, .int a3)]) hx hb dX2_alike_32 hl (k := 4) rfl rfl (by decide) rfl (fun ls hl => ?_)
          refine lv_goto (tgt := 3) hx hb dX2_alike_35 (by decide) ?_
          exact ih0 _ _ h _ _ _ hP hS (lv_sub hl [1, 2, 3, 4, 0] rfl)
  exact L3 _ _ _ h _ _ _ hP hS (lv_sub hl [1, 2, 3, 4, 0] rfl)

def lp_X2_bestDistance_21 (k : pt_St → Int32 → Int32 → Int32 → Int32 → Option (Int32 × pt_St)) (a1 : Int32) (a2 : Int32) : Nat → pt_St → Int32 → Int32 → Int32 → Int32 → Option (Int32 × pt_St)
  | 0, _, _, _, _, _ => none
  | n + 1, σ, x3, x4, x5, x6 =>
    if x5 < x6 then
    k σ x3 x4 x5 x6
    else
    if (a2 - a1) ≤ x4 then
    k σ x3 x4 x5 x6
    else
    pt_b2 (f_X2_alike σ a1 a2 x6) fun r22003 σ22003 =>
    if r22003 ≤ x4 then
    lp_X2_bestDistance_21 k a1 a2 n σ22003 x3 x4 x5 (x6 + (1 : Int32))
    else
    lp_X2_bestDistance_21 k a1 a2 n σ22003 x6 r22003 x5 (x6 + (1 : Int32))
def kx_X2_bestDistance_21 (a1 : Int32) (a2 : Int32) (σ : pt_St) (x3 : Int32) (x4 : Int32) (x5 : Int32) (x6 : Int32) : Option (Int32 × pt_St) :=
  some (x3, σ)
def f_X2_bestDistance (σ : pt_St) (a1 : Int32) (a2 : Int32) : Option (Int32 × pt_St) :=
  pt_b2 (f_X5_window σ) fun r1 σ1 =>
  lp_X2_bestDistance_21 (kx_X2_bestDistance_21 a1 a2) a1 a2 pt_F σ1 (0 : Int32) (2 : Int32) (if a1 < r1 then a1 else r1) (1 : Int32)
set_option maxHeartbeats 4000000 in
set_option maxRecDepth 100000 in
theorem m_X2_bestDistance (l : Launch) {D : va_G} {A : Nat → Prop} {ca : Nat → ClassId} {ad : Nat → Nat} {z : Nat × Nat} (hDa : ∀ σ, va_D A (wC ca ad σ)) {σ σ' : pt_St} {r : Int32} {a1 : Int32} {a2 : Int32} (h : f_X2_bestDistance σ a1 a2 = some (r, σ')) : Met l yX2_bestDistance wsX2_bestDistance { frames := 2, cells := 0, slots := 0, locals := 45 } (va_Pc [.ref (ad 4), .int a1, .int a2] (pt_Pre D (tysC ca) z A (wC ca ad σ))) (pt_Q (some (.int r)) D (wC ca ad σ') A) 0 0 A := by
  refine Met.ofW (cc := cX2_bestDistance) (maxL := 8) (ret := (some .int)) (by decide) rfl ?_
  intro p e s m args below meth c s₁ B hml hv
  obtain ⟨rfl, hP, hK, hZ⟩ := hv
  have S : CallFix p m c cX2_bestDistance 8 s ([.ref (ad 4), .int a1, .int a2] : List Value).toArray wsX2_bestDistance RX2 := ⟨B.exec, B.bytes, hml, findClass_of_methodNamed B.named, atoms_spec (ws := wsX2_bestDistance) B.pre⟩
  have hx := S.1
  have hb := S.2.1
  have hr := B.returns
  have hlk := B.notSynchronized
  clear B
  have hiX2 : ∀ w ∈ wsX20, w ∈ wsX2_bestDistance := fun w h => List.mem_cons_of_mem _ (List.mem_append_left _ (List.mem_append_left _ (List.mem_append_right _ h)))
  have hiX5 : ∀ w ∈ wsX50, w ∈ wsX2_bestDistance := fun w h => List.mem_cons_of_mem _ (List.mem_append_left _ (List.mem_append_right _ h))
  have hiX7 : ∀ w ∈ wsX70, w ∈ wsX2_bestDistance := fun w h => List.mem_cons_of_mem _ (List.mem_append_right _ h)
  have hf25 : (Cond.fieldLink RX2 25 "PackThreads$Packs" "settings" "LPackThreads$Settings;").before _ s = true := S.2.2.2.2 _ (List.mem_of_getElem? (i := 1) rfl)
  have hm94 : (Cond.methodLink RX2 94 Lib.Math.min.name).before _ s = true := S.2.2.2.2 _ (List.mem_of_getElem? (i := 2) rfl)
  have hs_min : (Cond.static Lib.Math.min.name).before _ s = true := S.2.2.2.2 _ (List.mem_of_getElem? (i := 3) rfl)
  have hi_math : (Cond.initialized "java/lang/Math").before _ s = true := S.2.2.2.2 _ (List.mem_of_getElem? (i := 4) rfl)
  have hc_min : (Cond.code Lib.Math.min.name Lib.Math.min.code 2 (some .int)).before _ s = true := S.2.2.2.2 _ (List.mem_of_getElem? (i := 5) rfl)
  have hS : va_S A s.heap s.heap [] := va_S.rf
  have hl := lv_entry ([.ref (ad 4), .int a1, .int a2]) (n := 8) (Nat.le_of_ble_eq_true rfl)
  rw [lg_entry_eq]
  generalize (lg_sl ([.ref (ad 4), .int a1, .int a2]) ++ List.replicate (8 - (lg_sl ([.ref (ad 4), .int a1, .int a2])).length) Slot.unset).toArray = ls at hl ⊢
  have hl : lv_has ls 8 [(0, .ref (ad 4)), (1, .int a1), (2, .int a2)] := hl
  unfold f_X2_bestDistance at h
  refine lv_iconst (v := 0) hx hb dX2_bestDistance_0 (by decide) ?_
  refine lv_istore_n (lv' := [(3, .int (0 : Int32)), (0, .ref (ad 4)), (1, .int a1), (2, .int a2)]) hx hb dX2_bestDistance_1 rfl hl (by decide) rfl (fun ls hl => ?_)
  refine lv_iconst (v := 2) hx hb dX2_bestDistance_2 (by decide) ?_
  refine lv_istore (lv' := [(4, .int (2 : Int32)), (3, .int (0 : Int32)), (0, .ref (ad 4)), (1, .int a1), (2, .int a2)]) hx hb dX2_bestDistance_3 hl (by decide) rfl (fun ls hl => ?_)
  refine lv_aload_n hx hb dX2_bestDistance_5 rfl (lv_at hl 2 rfl) ?_
  refine gf_X2_1 S hiX2 hK hP hf25 dX2_bestDistance_6 ?_
  replace h := pt_b2s h; obtain ⟨r1, σ1, e1, h⟩ := h
  refine pt_cVi (As := []) (rest := []) S (m_X5_window l hDa e1) (cwV 0 S.2.2.2.2 gX2_bestDistance_X5_window rfl rfl rfl (by decide +kernel) ⟨Nat.le_of_ble_eq_true rfl, Nat.le_of_ble_eq_true rfl⟩) hK hP hS hZ 2 5 rfl rfl rfl hl.1 rfl (Nat.le_of_ble_eq_true rfl) dX2_bestDistance_9 ⟨Nat.zero_le _, Nat.zero_le _⟩ (fun H locs hP hS => ?_)
  refine lv_iload_n hx hb dX2_bestDistance_12 rfl (lv_at hl 3 rfl) ?_
  refine va_mmin hx hb (S.2.2.1.trans hl.1.symm) S.2.2.2.1 hm94 hs_min hi_math hc_min (Nat.le_of_ble_eq_true rfl) (Nat.le_of_ble_eq_true rfl) (Nat.zero_le _) (Nat.zero_le _) dX2_bestDistance_13 ?_
  refine lv_istore (lv' := [(5, .int (if a1 < r1 then a1 else r1)), (4, .int (2 : Int32)), (3, .int (0 : Int32)), (0, .ref (ad 4)), (1, .int a1), (2, .int a2)]) hx hb dX2_bestDistance_16 hl (by decide) rfl (fun ls hl => ?_)
  refine lv_iconst (v := 1) hx hb dX2_bestDistance_18 (by decide) ?_
  refine lv_istore (lv' := [(6, .int (1 : Int32)), (5, .int (if a1 < r1 then a1 else r1)), (4, .int (2 : Int32)), (3, .int (0 : Int32)), (0, .ref (ad 4)), (1, .int a1), (2, .int a2)]) hx hb dX2_bestDistance_19 hl (by decide) rfl (fun ls hl => ?_)
  have X21 : ∀ (σ : pt_St) (x3 : Int32) (x4 : Int32) (x5 : Int32) (x6 : Int32), kx_X2_bestDistance_21 a1 a2 σ x3 x4 x5 x6 = some (r, σ') → ∀ (H : Heap) (locs : List Loc) (ls : Array Slot), va_P D vwCl (wC ca ad σ) H → va_S A s.heap H locs → lv_has ls 8 [(0, .ref (ad 4)), (1, .int a1), (2, .int a2), (3, .int x3), (4, .int x4), (5, .int x5), (6, .int x6)] → W p l e (headSpec wsX2_bestDistance { frames := 2, cells := 0, slots := 0, locals := 45 }).room s m ([.ref (ad 4), .int a1, .int a2] : List Value).toArray below meth c H locs 0 0 (MQ below (pt_Q (some (.int r)) D (wC ca ad σ') A) ([.ref (ad 4), .int a1, .int a2] : List Value).toArray s 0 0 A) (F0 m 66 ls []) := by
    intro σ x3 x4 x5 x6 h H locs ls hP hS hl
    unfold kx_X2_bestDistance_21 at h
    refine lv_iload_n hx hb dX2_bestDistance_66 rfl (lv_at hl 3 rfl) ?_
    exact pt_iret S hr hlk hP hS (pt_pr h).1 (congrArg (wC ca ad) (pt_pr h).2) dX2_bestDistance_67
  have L21 : ∀ (n : Nat) (σ : pt_St) (x3 : Int32) (x4 : Int32) (x5 : Int32) (x6 : Int32),  lp_X2_bestDistance_21 (kx_X2_bestDistance_21 a1 a2) a1 a2 n σ x3 x4 x5 x6 = some (r, σ') → ∀ (H : Heap) (locs : List Loc) (ls : Array Slot), va_P D vwCl (wC ca ad σ) H → va_S A s.heap H locs → lv_has ls 8 [(0, .ref (ad 4)), (1, .int a1), (2, .int a2), (3, .int x3), (4, .int x4), (5, .int x5), (6, .int x6)] → W p l e (headSpec wsX2_bestDistance { frames := 2, cells := 0, slots := 0, locals := 45 }).room s m ([.ref (ad 4), .int a1, .int a2] : List Value).toArray below meth c H locs 0 0 (MQ below (pt_Q (some (.int r)) D (wC ca ad σ') A) ([.ref (ad 4), .int a1, .int a2] : List Value).toArray s 0 0 A) (F0 m 21 ls []) := by
    intro n
    induction n with
    | zero => intro σ x3 x4 x5 x6 h; cases h
    | succ n ih0 =>
      intro σ x3 x4 x5 x6 h H locs ls hP hS hl
      rw [lp_X2_bestDistance_21] at h
      refine lv_iload hx hb dX2_bestDistance_21 (lv_at hl 6 rfl) ?_
      refine lv_iload hx hb dX2_bestDistance_23 (lv_at hl 5 rfl) ?_
      refine lv_icmp_gt (tgt := 66) hx hb dX2_bestDistance_25 (by decide) (fun c22001 => ?_) (fun c22001 => ?_)
      · replace h := pt_ip c22001 h
        exact X21 _ _ _ _ _ h _ _ _ hP hS (lv_sub hl [0, 1, 2, 3, 4, 5, 6] rfl)
      · replace h := pt_iN c22001 h
        refine lv_iload hx hb dX2_bestDistance_28 (lv_at hl 4 rfl) ?_
        refine lv_iload_n hx hb dX2_bestDistance_30 rfl (lv_at hl 2 rfl) ?_
        refine lv_iload_n hx hb dX2_bestDistance_31 rfl (lv_at hl 1 rfl) ?_
        refine lv_isub hx hb dX2_bestDistance_32 ?_
        refine lv_icmp_ge (tgt := 66) hx hb dX2_bestDistance_33 (by decide) (fun c22002 => ?_) (fun c22002 => ?_)
        · replace h := pt_ip c22002 h
          exact X21 _ _ _ _ _ h _ _ _ hP hS (lv_sub hl [0, 1, 2, 3, 4, 5, 6] rfl)
        · replace h := pt_iN c22002 h
          refine lv_aload_n hx hb dX2_bestDistance_36 rfl (lv_at hl 0 rfl) ?_
          refine lv_iload_n hx hb dX2_bestDistance_37 rfl (lv_at hl 1 rfl) ?_
          refine lv_iload_n hx hb dX2_bestDistance_38 rfl (lv_at hl 2 rfl) ?_
          refine lv_iload hx hb dX2_bestDistance_39 (lv_at hl 6 rfl) ?_
          replace h := pt_b2s h; obtain ⟨r22003, σ22003, e22003, h⟩ := h
          refine pt_cVi (As := [.int a1, .int a2, .int x6]) (rest := []) S (m_X2_alike l hDa e22003) (cwV 3 S.2.2.2.2 gX2_bestDistance_X2_alike rfl rfl rfl (by decide +kernel) ⟨Nat.le_of_ble_eq_true rfl, Nat.le_of_ble_eq_true rfl⟩) hK hP hS hZ 4 2 rfl rfl rfl hl.1 rfl (Nat.le_of_ble_eq_true rfl) dX2_bestDistance_41 ⟨Nat.zero_le _, Nat.zero_le _⟩ (fun H locs hP hS => ?_)
          refine lv_istore (lv' := [(7, .int r22003), (0, .ref (ad 4)), (1, .int a1), (2, .int a2), (3, .int x3), (4, .int x4), (5, .int x5), (6, .int x6)]) hx hb dX2_bestDistance_44 hl (by decide) rfl (fun ls hl => ?_)
          refine lv_iload hx hb dX2_bestDistance_46 (lv_at hl 0 rfl) ?_
          refine lv_iload hx hb dX2_bestDistance_48 (lv_at hl 5 rfl) ?_
          refine lv_icmp_le (tgt := 60) hx hb dX2_bestDistance_50 (by decide) (fun c22004 => ?_) (fun c22004 => ?_)
          · replace h := pt_ip c22004 h
            refine lv_iinc (v := x6 + (1 : Int32)) (lv' := [(6, .int (x6 + (1 : Int32))), (7, .int r22003), (0, .ref (ad 4)), (1, .int a1), (2, .int a2), (3, .int x3), (4, .int x4), (5, .int x5)]) hx hb dX2_bestDistance_60 hl (k := 7) rfl rfl (by decide) rfl (fun ls hl => ?_)
            refine lv_goto (tgt := 21) hx hb dX2_bestDistance_63 (by decide) ?_
            exact ih0 _ _ _ _ _ h _ _ _ hP hS (lv_sub hl [2, 3, 4, 5, 6, 7, 0] rfl)
          · replace h := pt_iN c22004 h
            refine lv_iload hx hb dX2_bestDistance_53 (lv_at hl 0 rfl) ?_
            refine lv_istore (lv' := [(4, .int r22003), (7, .int r22003), (0, .ref (ad 4)), (1, .int a1), (2, .int a2), (3, .int x3), (5, .int x5), (6, .int x6)]) hx hb dX2_bestDistance_55 hl (by decide) rfl (fun ls hl => ?_)
            refine lv_iload hx hb dX2_bestDistance_57 (lv_at hl 7 rfl) ?_
            refine lv_istore_n (lv' := [(3, .int x6), (4, .int r22003), (7, .int r22003), (0, .ref (ad 4)), (1, .int a1), (2, .int a2), (5, .int x5), (6, .int x6)]) hx hb dX2_bestDistance_59 rfl hl (by decide) rfl (fun ls hl => ?_)
            refine lv_iinc (v := x6 + (1 : Int32)) (lv' := [(6, .int (x6 + (1 : Int32))), (3, .int x6), (4, .int r22003), (7, .int r22003), (0, .ref (ad 4)), (1, .int a1), (2, .int a2), (5, .int x5)]) hx hb dX2_bestDistance_60 hl (k := 7) rfl rfl (by decide) rfl (fun ls hl => ?_)
            refine lv_goto (tgt := 21) hx hb dX2_bestDistance_63 (by decide) ?_
            exact ih0 _ _ _ _ _ h _ _ _ hP hS (lv_sub hl [4, 5, 6, 1, 2, 7, 0] rfl)
  exact L21 _ _ _ _ _ _ h _ _ _ hP hS (lv_sub hl [4, 5, 6, 3, 2, 1, 0] rfl)

def f_X2_put (σ : pt_St) (a1 : Int32) : Option pt_St :=
  if (σ 4 5) < (0 : Int32) then
  some σ
  else
  if (240 : Int32) ≤ (σ 4 5) then
  some σ
  else
  if pt_in (σ 4 5) 240 then
  pt_do (pt_put σ 19 (σ 4 5).toNatClampNeg a1) fun σ4 =>
  pt_do (pt_put σ4 4 5 ((σ4 4 5) + (1 : Int32))) fun σ5 =>
  some σ5
  else none
set_option maxHeartbeats 4000000 in
set_option maxRecDepth 100000 in
theorem m_X2_put (l : Launch) {D : va_G} {A : Nat → Prop} {ca : Nat → ClassId} {ad : Nat → Nat} {z : Nat × Nat} (hDa : ∀ σ, va_D A (wC ca ad σ)) {σ σ' : pt_St} {a1 : Int32} (h : f_X2_put σ a1 = some σ') : Met l yX2_put wsX2_put { frames := 0, cells := 0, slots := 0, locals := 0 } (va_Pc [.ref (ad 4), .int a1] (pt_Pre D (tysC ca) z A (wC ca ad σ))) (pt_Q none D (wC ca ad σ') A) 0 0 A := by
  refine Met.ofW (cc := cX2_put) (maxL := 2) (ret := none) (by decide) rfl ?_
  intro p e s m args below meth c s₁ B hml hv
  obtain ⟨rfl, hP, hK, hZ⟩ := hv
  have S : CallFix p m c cX2_put 2 s ([.ref (ad 4), .int a1] : List Value).toArray wsX2_put RX2 := ⟨B.exec, B.bytes, hml, findClass_of_methodNamed B.named, atoms_spec (ws := wsX2_put) B.pre⟩
  have hx := S.1
  have hb := S.2.1
  have hr := B.returns
  have hlk := B.notSynchronized
  clear B
  have hiX2 : ∀ w ∈ wsX20, w ∈ wsX2_put := fun w h => List.mem_cons_of_mem _ (List.mem_append_right _ h)
  have hf33 : (Cond.fieldLink RX2 33 "PackThreads$Packs" "count" "I").before _ s = true := S.2.2.2.2 _ (List.mem_of_getElem? (i := 1) rfl)
  have hf9 : (Cond.fieldLink RX2 9 "PackThreads$Packs" "bytes" "[I").before _ s = true := S.2.2.2.2 _ (List.mem_of_getElem? (i := 2) rfl)
  have hS : va_S A s.heap s.heap [] := va_S.rf
  have hl := lv_entry ([.ref (ad 4), .int a1]) (n := 2) (Nat.le_of_ble_eq_true rfl)
  rw [lg_entry_eq]
  generalize (lg_sl ([.ref (ad 4), .int a1]) ++ List.replicate (2 - (lg_sl ([.ref (ad 4), .int a1])).length) Slot.unset).toArray = ls at hl ⊢
  have hl : lv_has ls 2 [(0, .ref (ad 4)), (1, .int a1)] := hl
  unfold f_X2_put at h
  refine lv_aload_n hx hb dX2_put_0 rfl (lv_at hl 0 rfl) ?_
  refine gf_X2_5 S hiX2 hK hP hf33 dX2_put_1 ?_
  refine lv_if_lt (tgt := 39) hx hb dX2_put_4 (by decide) (fun c1 => ?_) (fun c1 => ?_)
  · replace h := pt_ip c1 h
    exact pt_vret S hr hlk hP hS (congrArg (wC ca ad) (pt_so h)) dX2_put_39
  · replace h := pt_iN c1 h
    refine lv_aload_n hx hb dX2_put_7 rfl (lv_at hl 0 rfl) ?_
    refine gf_X2_5 S hiX2 hK hP hf33 dX2_put_8 ?_
    refine lv_aload_n hx hb dX2_put_11 rfl (lv_at hl 0 rfl) ?_
    refine gf_X2_2 S hiX2 hK hP hf9 dX2_put_12 ?_
    refine ln_C_19 S hK hP dX2_put_15 ?_
    refine lv_icmp_ge (tgt := 39) hx hb dX2_put_16 (by decide) (fun c2 => ?_) (fun c2 => ?_)
    · replace h := pt_ip c2 h
      exact pt_vret S hr hlk hP hS (congrArg (wC ca ad) (pt_so h)) dX2_put_39
    · replace h := pt_iN c2 h
      refine lv_aload_n hx hb dX2_put_19 rfl (lv_at hl 0 rfl) ?_
      refine gf_X2_2 S hiX2 hK hP hf9 dX2_put_20 ?_
      refine lv_aload_n hx hb dX2_put_23 rfl (lv_at hl 0 rfl) ?_
      refine gf_X2_5 S hiX2 hK hP hf33 dX2_put_24 ?_
      refine lv_iload_n hx hb dX2_put_27 rfl (lv_at hl 1 rfl) ?_
      replace h := pt_gd h; obtain ⟨g3, h⟩ := h
      replace h := pt_dos h; obtain ⟨σ4, e4, h⟩ := h
      refine st_C_19 S hK hP hDa hS g3 e4 dX2_put_28 (fun H locs hP hS => ?_)
      refine lv_aload_n hx hb dX2_put_29 rfl (lv_at hl 0 rfl) ?_
      refine lv_dup hx hb dX2_put_30 rfl ?_
      refine gf_X2_5 S hiX2 hK hP hf33 dX2_put_31 ?_
      refine lv_iconst (v := 1) hx hb dX2_put_34 (by decide) ?_
      refine lv_iadd hx hb dX2_put_35 ?_
      replace h := pt_dos h; obtain ⟨σ5, e5, h⟩ := h
      refine pf_X2_5 S hiX2 hK hP hDa hS hf33 e5 dX2_put_36 (fun H locs hP hS => ?_)
      exact pt_vret S hr hlk hP hS (congrArg (wC ca ad) (pt_so h)) dX2_put_39

def f_X2_putByte (σ : pt_St) (a1 : Int32) : Option pt_St :=
  if (σ 4 7) = (-1 : Int32) then
  pt_do (pt_put σ 4 7 (σ 4 5)) fun σ2 =>
  pt_b1 (f_X2_put σ2 (0 : Int32)) fun σ3 =>
  if (σ3 4 7) < (0 : Int32) then
  pt_b1 (f_X2_put σ3 a1) fun σ5 =>
  some σ5
  else
  if (240 : Int32) ≤ (σ3 4 7) then
  pt_b1 (f_X2_put σ3 a1) fun σ7 =>
  some σ7
  else
  if pt_in (σ3 4 7) 240 then
  pt_do (pt_put σ3 19 (σ3 4 7).toNatClampNeg ((σ3 19 (σ3 4 7).toNatClampNeg) + (1 : Int32))) fun σ9 =>
  pt_b1 (f_X2_put σ9 a1) fun σ10 =>
  some σ10
  else none
  else
  if (σ 4 7) < (0 : Int32) then
  pt_b1 (f_X2_put σ a1) fun σ12 =>
  some σ12
  else
  if (240 : Int32) ≤ (σ 4 7) then
  pt_b1 (f_X2_put σ a1) fun σ14 =>
  some σ14
  else
  if pt_in (σ 4 7) 240 then
  pt_do (pt_put σ 19 (σ 4 7).toNatClampNeg ((σ 19 (σ 4 7).toNatClampNeg) + (1 : Int32))) fun σ16 =>
  pt_b1 (f_X2_put σ16 a1) fun σ17 =>
  some σ17
  else none
set_option maxHeartbeats 4000000 in
set_option maxRecDepth 100000 in
theorem m_X2_putByte (l : Launch) {D : va_G} {A : Nat → Prop} {ca : Nat → ClassId} {ad : Nat → Nat} {z : Nat × Nat} (hDa : ∀ σ, va_D A (wC ca ad σ)) {σ σ' : pt_St} {a1 : Int32} (h : f_X2_putByte σ a1 = some σ') : Met l yX2_putByte wsX2_putByte { frames := 1, cells := 0, slots := 0, locals := 21 } (va_Pc [.ref (ad 4), .int a1] (pt_Pre D (tysC ca) z A (wC ca ad σ))) (pt_Q none D (wC ca ad σ') A) 0 0 A := by
  refine Met.ofW (cc := cX2_putByte) (maxL := 2) (ret := none) (by decide) rfl ?_
  intro p e s m args below meth c s₁ B hml hv
  obtain ⟨rfl, hP, hK, hZ⟩ := hv
  have S : CallFix p m c cX2_putByte 2 s ([.ref (ad 4), .int a1] : List Value).toArray wsX2_putByte RX2 := ⟨B.exec, B.bytes, hml, findClass_of_methodNamed B.named, atoms_spec (ws := wsX2_putByte) B.pre⟩
  have hx := S.1
  have hb := S.2.1
  have hr := B.returns
  have hlk := B.notSynchronized
  clear B
  have hiX2 : ∀ w ∈ wsX20, w ∈ wsX2_putByte := fun w h => List.mem_cons_of_mem _ (List.mem_append_right _ h)
  have hf62 : (Cond.fieldLink RX2 62 "PackThreads$Packs" "runAt" "I").before _ s = true := S.2.2.2.2 _ (List.mem_of_getElem? (i := 1) rfl)
  have hf33 : (Cond.fieldLink RX2 33 "PackThreads$Packs" "count" "I").before _ s = true := S.2.2.2.2 _ (List.mem_of_getElem? (i := 2) rfl)
  have hf9 : (Cond.fieldLink RX2 9 "PackThreads$Packs" "bytes" "[I").before _ s = true := S.2.2.2.2 _ (List.mem_of_getElem? (i := 3) rfl)
  have hS : va_S A s.heap s.heap [] := va_S.rf
  have hl := lv_entry ([.ref (ad 4), .int a1]) (n := 2) (Nat.le_of_ble_eq_true rfl)
  rw [lg_entry_eq]
  generalize (lg_sl ([.ref (ad 4), .int a1]) ++ List.replicate (2 - (lg_sl ([.ref (ad 4), .int a1])).length) Slot.unset).toArray = ls at hl ⊢
  have hl : lv_has ls 2 [(0, .ref (ad 4)), (1, .int a1)] := hl
  unfold f_X2_putByte at h
  refine lv_aload_n hx hb dX2_putByte_0 rfl (lv_at hl 0 rfl) ?_
  refine gf_X2_7 S hiX2 hK hP hf62 dX2_putByte_1 ?_
  refine lv_iconst (v := -1) hx hb dX2_putByte_4 (by decide) ?_
  refine lv_icmp_ne (tgt := 21) hx hb dX2_putByte_5 (by decide) (fun c1 => ?_) (fun c1 => ?_)
  · replace h := pt_iN c1 h
    refine lv_aload_n hx hb dX2_putByte_21 rfl (lv_at hl 0 rfl) ?_
    refine gf_X2_7 S hiX2 hK hP hf62 dX2_putByte_22 ?_
    refine lv_if_lt (tgt := 53) hx hb dX2_putByte_25 (by decide) (fun c11 => ?_) (fun c11 => ?_)
    · replace h := pt_ip c11 h
      refine lv_aload_n hx hb dX2_putByte_53 rfl (lv_at hl 0 rfl) ?_
      refine lv_iload_n hx hb dX2_putByte_54 rfl (lv_at hl 1 rfl) ?_
      replace h := pt_b1s h; obtain ⟨σ12, e12, h⟩ := h
      refine pt_cVv (As := [.int a1]) (rest := []) S (m_X2_put l hDa e12) (cwV 1 S.2.2.2.2 gX2_putByte_X2_put rfl rfl rfl (by decide +kernel) ⟨Nat.le_of_ble_eq_true rfl, Nat.le_of_ble_eq_true rfl⟩) hK hP hS hZ 4 2 rfl rfl rfl hl.1 rfl (Nat.le_of_ble_eq_true rfl) dX2_putByte_55 ⟨Nat.zero_le _, Nat.zero_le _⟩ (fun H locs hP hS => ?_)
      exact pt_vret S hr hlk hP hS (congrArg (wC ca ad) (pt_so h)) dX2_putByte_58
    · replace h := pt_iN c11 h
      refine lv_aload_n hx hb dX2_putByte_28 rfl (lv_at hl 0 rfl) ?_
      refine gf_X2_7 S hiX2 hK hP hf62 dX2_putByte_29 ?_
      refine lv_aload_n hx hb dX2_putByte_32 rfl (lv_at hl 0 rfl) ?_
      refine gf_X2_2 S hiX2 hK hP hf9 dX2_putByte_33 ?_
      refine ln_C_19 S hK hP dX2_putByte_36 ?_
      refine lv_icmp_ge (tgt := 53) hx hb dX2_putByte_37 (by decide) (fun c13 => ?_) (fun c13 => ?_)
      · replace h := pt_ip c13 h
        refine lv_aload_n hx hb dX2_putByte_53 rfl (lv_at hl 0 rfl) ?_
        refine lv_iload_n hx hb dX2_putByte_54 rfl (lv_at hl 1 rfl) ?_
        replace h := pt_b1s h; obtain ⟨σ14, e14, h⟩ := h
        refine pt_cVv (As := [.int a1]) (rest := []) S (m_X2_put l hDa e14) (cwV 1 S.2.2.2.2 gX2_putByte_X2_put rfl rfl rfl (by decide +kernel) ⟨Nat.le_of_ble_eq_true rfl, Nat.le_of_ble_eq_true rfl⟩) hK hP hS hZ 4 2 rfl rfl rfl hl.1 rfl (Nat.le_of_ble_eq_true rfl) dX2_putByte_55 ⟨Nat.zero_le _, Nat.zero_le _⟩ (fun H locs hP hS => ?_)
        exact pt_vret S hr hlk hP hS (congrArg (wC ca ad) (pt_so h)) dX2_putByte_58
      · replace h := pt_iN c13 h
        refine lv_aload_n hx hb dX2_putByte_40 rfl (lv_at hl 0 rfl) ?_
        refine gf_X2_2 S hiX2 hK hP hf9 dX2_putByte_41 ?_
        refine lv_aload_n hx hb dX2_putByte_44 rfl (lv_at hl 0 rfl) ?_
        refine gf_X2_7 S hiX2 hK hP hf62 dX2_putByte_45 ?_
        refine lv_dup2_11 hx hb dX2_putByte_48 rfl rfl ?_
        replace h := pt_gd h; obtain ⟨g15, h⟩ := h
        refine ld_C_19 S hK hP g15 dX2_putByte_49 ?_
        refine lv_iconst (v := 1) hx hb dX2_putByte_50 (by decide) ?_
        refine lv_iadd hx hb dX2_putByte_51 ?_
        replace h := pt_dos h; obtain ⟨σ16, e16, h⟩ := h
        refine st_C_19 S hK hP hDa hS g15 e16 dX2_putByte_52 (fun H locs hP hS => ?_)
        refine lv_aload_n hx hb dX2_putByte_53 rfl (lv_at hl 0 rfl) ?_
        refine lv_iload_n hx hb dX2_putByte_54 rfl (lv_at hl 1 rfl) ?_
        replace h := pt_b1s h; obtain ⟨σ17, e17, h⟩ := h
        refine pt_cVv (As := [.int a1]) (rest := []) S (m_X2_put l hDa e17) (cwV 1 S.2.2.2.2 gX2_putByte_X2_put rfl rfl rfl (by decide +kernel) ⟨Nat.le_of_ble_eq_true rfl, Nat.le_of_ble_eq_true rfl⟩) hK hP hS hZ 4 2 rfl rfl rfl hl.1 rfl (Nat.le_of_ble_eq_true rfl) dX2_putByte_55 ⟨Nat.zero_le _, Nat.zero_le _⟩ (fun H locs hP hS => ?_)
        exact pt_vret S hr hlk hP hS (congrArg (wC ca ad) (pt_so h)) dX2_putByte_58
  · replace h := pt_ip c1 h
    refine lv_aload_n hx hb dX2_putByte_8 rfl (lv_at hl 0 rfl) ?_
    refine lv_aload_n hx hb dX2_putByte_9 rfl (lv_at hl 0 rfl) ?_
    refine gf_X2_5 S hiX2 hK hP hf33 dX2_putByte_10 ?_
    replace h := pt_dos h; obtain ⟨σ2, e2, h⟩ := h
    refine pf_X2_7 S hiX2 hK hP hDa hS hf62 e2 dX2_putByte_13 (fun H locs hP hS => ?_)
    refine lv_aload_n hx hb dX2_putByte_16 rfl (lv_at hl 0 rfl) ?_
    refine lv_iconst (v := 0) hx hb dX2_putByte_17 (by decide) ?_
    replace h := pt_b1s h; obtain ⟨σ3, e3, h⟩ := h
    refine pt_cVv (As := [.int (0 : Int32)]) (rest := []) S (m_X2_put l hDa e3) (cwV 1 S.2.2.2.2 gX2_putByte_X2_put rfl rfl rfl (by decide +kernel) ⟨Nat.le_of_ble_eq_true rfl, Nat.le_of_ble_eq_true rfl⟩) hK hP hS hZ 4 2 rfl rfl rfl hl.1 rfl (Nat.le_of_ble_eq_true rfl) dX2_putByte_18 ⟨Nat.zero_le _, Nat.zero_le _⟩ (fun H locs hP hS => ?_)
    refine lv_aload_n hx hb dX2_putByte_21 rfl (lv_at hl 0 rfl) ?_
    refine gf_X2_7 S hiX2 hK hP hf62 dX2_putByte_22 ?_
    refine lv_if_lt (tgt := 53) hx hb dX2_putByte_25 (by decide) (fun c4 => ?_) (fun c4 => ?_)
    · replace h := pt_ip c4 h
      refine lv_aload_n hx hb dX2_putByte_53 rfl (lv_at hl 0 rfl) ?_
      refine lv_iload_n hx hb dX2_putByte_54 rfl (lv_at hl 1 rfl) ?_
      replace h := pt_b1s h; obtain ⟨σ5, e5, h⟩ := h
      refine pt_cVv (As := [.int a1]) (rest := []) S (m_X2_put l hDa e5) (cwV 1 S.2.2.2.2 gX2_putByte_X2_put rfl rfl rfl (by decide +kernel) ⟨Nat.le_of_ble_eq_true rfl, Nat.le_of_ble_eq_true rfl⟩) hK hP hS hZ 4 2 rfl rfl rfl hl.1 rfl (Nat.le_of_ble_eq_true rfl) dX2_putByte_55 ⟨Nat.zero_le _, Nat.zero_le _⟩ (fun H locs hP hS => ?_)
      exact pt_vret S hr hlk hP hS (congrArg (wC ca ad) (pt_so h)) dX2_putByte_58
    · replace h := pt_iN c4 h
      refine lv_aload_n hx hb dX2_putByte_28 rfl (lv_at hl 0 rfl) ?_
      refine gf_X2_7 S hiX2 hK hP hf62 dX2_putByte_29 ?_
      refine lv_aload_n hx hb dX2_putByte_32 rfl (lv_at hl 0 rfl) ?_
      refine gf_X2_2 S hiX2 hK hP hf9 dX2_putByte_33 ?_
      refine ln_C_19 S hK hP dX2_putByte_36 ?_
      refine lv_icmp_ge (tgt := 53) hx hb dX2_putByte_37 (by decide) (fun c6 => ?_) (fun c6 => ?_)
      · replace h := pt_ip c6 h
        refine lv_aload_n hx hb dX2_putByte_53 rfl (lv_at hl 0 rfl) ?_
        refine lv_iload_n hx hb dX2_putByte_54 rfl (lv_at hl 1 rfl) ?_
        replace h := pt_b1s h; obtain ⟨σ7, e7, h⟩ := h
        refine pt_cVv (As := [.int a1]) (rest := []) S (m_X2_put l hDa e7) (cwV 1 S.2.2.2.2 gX2_putByte_X2_put rfl rfl rfl (by decide +kernel) ⟨Nat.le_of_ble_eq_true rfl, Nat.le_of_ble_eq_true rfl⟩) hK hP hS hZ 4 2 rfl rfl rfl hl.1 rfl (Nat.le_of_ble_eq_true rfl) dX2_putByte_55 ⟨Nat.zero_le _, Nat.zero_le _⟩ (fun H locs hP hS => ?_)
        exact pt_vret S hr hlk hP hS (congrArg (wC ca ad) (pt_so h)) dX2_putByte_58
      · replace h := pt_iN c6 h
        refine lv_aload_n hx hb dX2_putByte_40 rfl (lv_at hl 0 rfl) ?_
        refine gf_X2_2 S hiX2 hK hP hf9 dX2_putByte_41 ?_
        refine lv_aload_n hx hb dX2_putByte_44 rfl (lv_at hl 0 rfl) ?_
        refine gf_X2_7 S hiX2 hK hP hf62 dX2_putByte_45 ?_
        refine lv_dup2_11 hx hb dX2_putByte_48 rfl rfl ?_
        replace h := pt_gd h; obtain ⟨g8, h⟩ := h
        refine ld_C_19 S hK hP g8 dX2_putByte_49 ?_
        refine lv_iconst (v := 1) hx hb dX2_putByte_50 (by decide) ?_
        refine lv_iadd hx hb dX2_putByte_51 ?_
        replace h := pt_dos h; obtain ⟨σ9, e9, h⟩ := h
        refine st_C_19 S hK hP hDa hS g8 e9 dX2_putByte_52 (fun H locs hP hS => ?_)
        refine lv_aload_n hx hb dX2_putByte_53 rfl (lv_at hl 0 rfl) ?_
        refine lv_iload_n hx hb dX2_putByte_54 rfl (lv_at hl 1 rfl) ?_
        replace h := pt_b1s h; obtain ⟨σ10, e10, h⟩ := h
        refine pt_cVv (As := [.int a1]) (rest := []) S (m_X2_put l hDa e10) (cwV 1 S.2.2.2.2 gX2_putByte_X2_put rfl rfl rfl (by decide +kernel) ⟨Nat.le_of_ble_eq_true rfl, Nat.le_of_ble_eq_true rfl⟩) hK hP hS hZ 4 2 rfl rfl rfl hl.1 rfl (Nat.le_of_ble_eq_true rfl) dX2_putByte_55 ⟨Nat.zero_le _, Nat.zero_le _⟩ (fun H locs hP hS => ?_)
        exact pt_vret S hr hlk hP hS (congrArg (wC ca ad) (pt_so h)) dX2_putByte_58

def f_X2_putCopy (σ : pt_St) (a1 : Int32) (a2 : Int32) : Option pt_St :=
  pt_b1 (f_X2_put σ (((128 : Int32) + a1) - (3 : Int32))) fun σ1 =>
  pt_b1 (f_X2_put σ1 (a2 - (1 : Int32))) fun σ2 =>
  pt_do (pt_put σ2 4 7 (-1 : Int32)) fun σ3 =>
  some σ3
set_option maxHeartbeats 4000000 in
set_option maxRecDepth 100000 in
theorem m_X2_putCopy (l : Launch) {D : va_G} {A : Nat → Prop} {ca : Nat → ClassId} {ad : Nat → Nat} {z : Nat × Nat} (hDa : ∀ σ, va_D A (wC ca ad σ)) {σ σ' : pt_St} {a1 : Int32} {a2 : Int32} (h : f_X2_putCopy σ a1 a2 = some σ') : Met l yX2_putCopy wsX2_putCopy { frames := 1, cells := 0, slots := 0, locals := 21 } (va_Pc [.ref (ad 4), .int a1, .int a2] (pt_Pre D (tysC ca) z A (wC ca ad σ))) (pt_Q none D (wC ca ad σ') A) 0 0 A := by
  refine Met.ofW (cc := cX2_putCopy) (maxL := 3) (ret := none) (by decide) rfl ?_
  intro p e s m args below meth c s₁ B hml hv
  obtain ⟨rfl, hP, hK, hZ⟩ := hv
  have S : CallFix p m c cX2_putCopy 3 s ([.ref (ad 4), .int a1, .int a2] : List Value).toArray wsX2_putCopy RX2 := ⟨B.exec, B.bytes, hml, findClass_of_methodNamed B.named, atoms_spec (ws := wsX2_putCopy) B.pre⟩
  have hx := S.1
  have hb := S.2.1
  have hr := B.returns
  have hlk := B.notSynchronized
  clear B
  have hiX2 : ∀ w ∈ wsX20, w ∈ wsX2_putCopy := fun w h => List.mem_cons_of_mem _ (List.mem_append_right _ h)
  have hf62 : (Cond.fieldLink RX2 62 "PackThreads$Packs" "runAt" "I").before _ s = true := S.2.2.2.2 _ (List.mem_of_getElem? (i := 1) rfl)
  have hS : va_S A s.heap s.heap [] := va_S.rf
  have hl := lv_entry ([.ref (ad 4), .int a1, .int a2]) (n := 3) (Nat.le_of_ble_eq_true rfl)
  rw [lg_entry_eq]
  generalize (lg_sl ([.ref (ad 4), .int a1, .int a2]) ++ List.replicate (3 - (lg_sl ([.ref (ad 4), .int a1, .int a2])).length) Slot.unset).toArray = ls at hl ⊢
  have hl : lv_has ls 3 [(0, .ref (ad 4)), (1, .int a1), (2, .int a2)] := hl
  unfold f_X2_putCopy at h
  refine lv_aload_n hx hb dX2_putCopy_0 rfl (lv_at hl 0 rfl) ?_
  refine lv_sipush (v := 128) hx hb dX2_putCopy_1 (by decide) ?_
  refine lv_iload_n hx hb dX2_putCopy_4 rfl (lv_at hl 1 rfl) ?_
  refine lv_iadd hx hb dX2_putCopy_5 ?_
  refine lv_iconst (v := 3) hx hb dX2_putCopy_6 (by decide) ?_
  refine lv_isub hx hb dX2_putCopy_7 ?_
  replace h := pt_b1s h; obtain ⟨σ1, e1, h⟩ := h
  refine pt_cVv (As := [.int (((128 : Int32) + a1) - (3 : Int32))]) (rest := []) S (m_X2_put l hDa e1) (cwV 1 S.2.2.2.2 gX2_putCopy_X2_put rfl rfl rfl (by decide +kernel) ⟨Nat.le_of_ble_eq_true rfl, Nat.le_of_ble_eq_true rfl⟩) hK hP hS hZ 4 2 rfl rfl rfl hl.1 rfl (Nat.le_of_ble_eq_true rfl) dX2_putCopy_8 ⟨Nat.zero_le _, Nat.zero_le _⟩ (fun H locs hP hS => ?_)
  refine lv_aload_n hx hb dX2_putCopy_11 rfl (lv_at hl 0 rfl) ?_
  refine lv_iload_n hx hb dX2_putCopy_12 rfl (lv_at hl 2 rfl) ?_
  refine lv_iconst (v := 1) hx hb dX2_putCopy_13 (by decide) ?_
  refine lv_isub hx hb dX2_putCopy_14 ?_
  replace h := pt_b1s h; obtain ⟨σ2, e2, h⟩ := h
  refine pt_cVv (As := [.int (a2 - (1 : Int32))]) (rest := []) S (m_X2_put l hDa e2) (cwV 1 S.2.2.2.2 gX2_putCopy_X2_put rfl rfl rfl (by decide +kernel) ⟨Nat.le_of_ble_eq_true rfl, Nat.le_of_ble_eq_true rfl⟩) hK hP hS hZ 4 2 rfl rfl rfl hl.1 rfl (Nat.le_of_ble_eq_true rfl) dX2_putCopy_15 ⟨Nat.zero_le _, Nat.zero_le _⟩ (fun H locs hP hS => ?_)
  refine lv_aload_n hx hb dX2_putCopy_18 rfl (lv_at hl 0 rfl) ?_
  refine lv_iconst (v := -1) hx hb dX2_putCopy_19 (by decide) ?_
  replace h := pt_dos h; obtain ⟨σ3, e3, h⟩ := h
  refine pf_X2_7 S hiX2 hK hP hDa hS hf62 e3 dX2_putCopy_20 (fun H locs hP hS => ?_)
  exact pt_vret S hr hlk hP hS (congrArg (wC ca ad) (pt_so h)) dX2_putCopy_23

def lp_X2_packBytes_10 (k : pt_St → Int32 → Int32 → Option (Int32 × pt_St)) (a1 : Int32) (a2 : Int32) : Nat → pt_St → Int32 → Int32 → Option (Int32 × pt_St)
  | 0, _, _, _ => none
  | n + 1, σ, x3, x5 =>
    if a2 ≤ x5 then
    k σ x3 x5
    else
    pt_b2 (f_X2_bestDistance σ x5 a2) fun r11002 σ11002 =>
    if r11002 = (0 : Int32) then
    pt_b2 (f_X7_at σ11002 x5) fun r11005 σ11005 =>
    pt_b1 (f_X2_putByte σ11005 r11005) fun σ11006 =>
    lp_X2_packBytes_10 k a1 a2 n σ11006 (x3 + (1 : Int32)) (x5 + (if (1 : Int32) < (1 : Int32) then (1 : Int32) else (1 : Int32)))
    else
    pt_b2 (f_X2_alike σ11002 x5 a2 r11002) fun r11007 σ11007 =>
    pt_b1 (f_X2_putCopy σ11007 r11007 r11002) fun σ11009 =>
    lp_X2_packBytes_10 k a1 a2 n σ11009 (x3 + (1 : Int32)) (x5 + (if (1 : Int32) < r11007 then r11007 else (1 : Int32)))
def kx_X2_packBytes_10 (a1 : Int32) (a2 : Int32) (σ : pt_St) (x3 : Int32) (x5 : Int32) : Option (Int32 × pt_St) :=
  pt_b1 (f_X2_put σ (0 : Int32)) fun σ11501 =>
  some (x3, σ11501)
def f_X2_packBytes (σ : pt_St) (a1 : Int32) (a2 : Int32) : Option (Int32 × pt_St) :=
  pt_do (pt_put σ 4 7 (-1 : Int32)) fun σ1 =>
  lp_X2_packBytes_10 (kx_X2_packBytes_10 a1 a2) a1 a2 pt_F σ1 (0 : Int32) a1
set_option maxHeartbeats 4000000 in
set_option maxRecDepth 100000 in
theorem m_X2_packBytes (l : Launch) {D : va_G} {A : Nat → Prop} {ca : Nat → ClassId} {ad : Nat → Nat} {z : Nat × Nat} (hDa : ∀ σ, va_D A (wC ca ad σ)) {σ σ' : pt_St} {r : Int32} {a1 : Int32} {a2 : Int32} (h : f_X2_packBytes σ a1 a2 = some (r, σ')) : Met l yX2_packBytes wsX2_packBytes { frames := 3, cells := 0, slots := 0, locals := 72 } (va_Pc [.ref (ad 4), .int a1, .int a2] (pt_Pre D (tysC ca) z A (wC ca ad σ))) (pt_Q (some (.int r)) D (wC ca ad σ') A) 0 0 A := by
  refine Met.ofW (cc := cX2_packBytes) (maxL := 7) (ret := (some .int)) (by decide) rfl ?_
  intro p e s m args below meth c s₁ B hml hv
  obtain ⟨rfl, hP, hK, hZ⟩ := hv
  have S : CallFix p m c cX2_packBytes 7 s ([.ref (ad 4), .int a1, .int a2] : List Value).toArray wsX2_packBytes RX2 := ⟨B.exec, B.bytes, hml, findClass_of_methodNamed B.named, atoms_spec (ws := wsX2_packBytes) B.pre⟩
  have hx := S.1
  have hb := S.2.1
  have hr := B.returns
  have hlk := B.notSynchronized
  clear B
  have hiX2 : ∀ w ∈ wsX20, w ∈ wsX2_packBytes := fun w h => List.mem_cons_of_mem _ (List.mem_append_left _ (List.mem_append_left _ (List.mem_append_right _ h)))
  have hiX5 : ∀ w ∈ wsX50, w ∈ wsX2_packBytes := fun w h => List.mem_cons_of_mem _ (List.mem_append_left _ (List.mem_append_right _ h))
  have hiX7 : ∀ w ∈ wsX70, w ∈ wsX2_packBytes := fun w h => List.mem_cons_of_mem _ (List.mem_append_right _ h)
  have hf62 : (Cond.fieldLink RX2 62 "PackThreads$Packs" "runAt" "I").before _ s = true := S.2.2.2.2 _ (List.mem_of_getElem? (i := 1) rfl)
  have hf21 : (Cond.fieldLink RX2 21 "PackThreads$Packs" "text" "LPackThreads$Text;").before _ s = true := S.2.2.2.2 _ (List.mem_of_getElem? (i := 2) rfl)
  have hm83 : (Cond.methodLink RX2 83 Lib.Math.max.name).before _ s = true := S.2.2.2.2 _ (List.mem_of_getElem? (i := 3) rfl)
  have hs_max : (Cond.static Lib.Math.max.name).before _ s = true := S.2.2.2.2 _ (List.mem_of_getElem? (i := 4) rfl)
  have hi_math : (Cond.initialized "java/lang/Math").before _ s = true := S.2.2.2.2 _ (List.mem_of_getElem? (i := 5) rfl)
  have hc_max : (Cond.code Lib.Math.max.name Lib.Math.max.code 2 (some .int)).before _ s = true := S.2.2.2.2 _ (List.mem_of_getElem? (i := 6) rfl)
  have hS : va_S A s.heap s.heap [] := va_S.rf
  have hl := lv_entry ([.ref (ad 4), .int a1, .int a2]) (n := 7) (Nat.le_of_ble_eq_true rfl)
  rw [lg_entry_eq]
  generalize (lg_sl ([.ref (ad 4), .int a1, .int a2]) ++ List.replicate (7 - (lg_sl ([.ref (ad 4), .int a1, .int a2])).length) Slot.unset).toArray = ls at hl ⊢
  have hl : lv_has ls 7 [(0, .ref (ad 4)), (1, .int a1), (2, .int a2)] := hl
  unfold f_X2_packBytes at h
  refine lv_iconst (v := 0) hx hb dX2_packBytes_0 (by decide) ?_
  refine lv_istore_n (lv' := [(3, .int (0 : Int32)), (0, .ref (ad 4)), (1, .int a1), (2, .int a2)]) hx hb dX2_packBytes_1 rfl hl (by decide) rfl (fun ls hl => ?_)
  refine lv_aload_n hx hb dX2_packBytes_2 rfl (lv_at hl 1 rfl) ?_
  refine lv_iconst (v := -1) hx hb dX2_packBytes_3 (by decide) ?_
  replace h := pt_dos h; obtain ⟨σ1, e1, h⟩ := h
  refine pf_X2_7 S hiX2 hK hP hDa hS hf62 e1 dX2_packBytes_4 (fun H locs hP hS => ?_)
  refine lv_iload_n hx hb dX2_packBytes_7 rfl (lv_at hl 2 rfl) ?_
  refine lv_istore (lv' := [(5, .int a1), (3, .int (0 : Int32)), (0, .ref (ad 4)), (1, .int a1), (2, .int a2)]) hx hb dX2_packBytes_8 hl (by decide) rfl (fun ls hl => ?_)
  have X10 : ∀ (σ : pt_St) (x3 : Int32) (x5 : Int32), kx_X2_packBytes_10 a1 a2 σ x3 x5 = some (r, σ') → ∀ (H : Heap) (locs : List Loc) (ls : Array Slot), va_P D vwCl (wC ca ad σ) H → va_S A s.heap H locs → lv_has ls 7 [(0, .ref (ad 4)), (1, .int a1), (2, .int a2), (3, .int x3), (5, .int x5)] → W p l e (headSpec wsX2_packBytes { frames := 3, cells := 0, slots := 0, locals := 72 }).room s m ([.ref (ad 4), .int a1, .int a2] : List Value).toArray below meth c H locs 0 0 (MQ below (pt_Q (some (.int r)) D (wC ca ad σ') A) ([.ref (ad 4), .int a1, .int a2] : List Value).toArray s 0 0 A) (F0 m 91 ls []) := by
    intro σ x3 x5 h H locs ls hP hS hl
    unfold kx_X2_packBytes_10 at h
    refine lv_aload_n hx hb dX2_packBytes_91 rfl (lv_at hl 0 rfl) ?_
    refine lv_iconst (v := 0) hx hb dX2_packBytes_92 (by decide) ?_
    replace h := pt_b1s h; obtain ⟨σ11501, e11501, h⟩ := h
    refine pt_cVv (As := [.int (0 : Int32)]) (rest := []) S (m_X2_put l hDa e11501) (cwV 1 S.2.2.2.2 gX2_packBytes_X2_put rfl rfl rfl (by decide +kernel) ⟨Nat.le_of_ble_eq_true rfl, Nat.le_of_ble_eq_true rfl⟩) hK hP hS hZ 4 2 rfl rfl rfl hl.1 rfl (Nat.le_of_ble_eq_true rfl) dX2_packBytes_93 ⟨Nat.zero_le _, Nat.zero_le _⟩ (fun H locs hP hS => ?_)
    refine lv_iload_n hx hb dX2_packBytes_96 rfl (lv_at hl 3 rfl) ?_
    exact pt_iret S hr hlk hP hS (pt_pr h).1 (congrArg (wC ca ad) (pt_pr h).2) dX2_packBytes_97
  have L10 : ∀ (n : Nat) (σ : pt_St) (x3 : Int32) (x5 : Int32),  lp_X2_packBytes_10 (kx_X2_packBytes_10 a1 a2) a1 a2 n σ x3 x5 = some (r, σ') → ∀ (H : Heap) (locs : List Loc) (ls : Array Slot), va_P D vwCl (wC ca ad σ) H → va_S A s.heap H locs → lv_has ls 7 [(0, .ref (ad 4)), (1, .int a1), (2, .int a2), (3, .int x3), (5, .int x5)] → W p l e (headSpec wsX2_packBytes { frames := 3, cells := 0, slots := 0, locals := 72 }).room s m ([.ref (ad 4), .int a1, .int a2] : List Value).toArray below meth c H locs 0 0 (MQ below (pt_Q (some (.int r)) D (wC ca ad σ') A) ([.ref (ad 4), .int a1, .int a2] : List Value).toArray s 0 0 A) (F0 m 10 ls []) := by
    intro n
    induction n with
    | zero => intro σ x3 x5 h; cases h
    | succ n ih0 =>
      intro σ x3 x5 h H locs ls hP hS hl
      rw [lp_X2_packBytes_10] at h
      refine lv_iload hx hb dX2_packBytes_10 (lv_at hl 4 rfl) ?_
      refine lv_iload_n hx hb dX2_packBytes_12 rfl (lv_at hl 2 rfl) ?_
      refine lv_icmp_ge (tgt := 91) hx hb dX2_packBytes_13 (by decide) (fun c11001 => ?_) (fun c11001 => ?_)
      · replace h := pt_ip c11001 h
        exact X10 _ _ _ h _ _ _ hP hS (lv_sub hl [0, 1, 2, 3, 4] rfl)
      · replace h := pt_iN c11001 h
        refine lv_aload_n hx hb dX2_packBytes_16 rfl (lv_at hl 0 rfl) ?_
        refine lv_iload hx hb dX2_packBytes_17 (lv_at hl 4 rfl) ?_
        refine lv_iload_n hx hb dX2_packBytes_19 rfl (lv_at hl 2 rfl) ?_
        replace h := pt_b2s h; obtain ⟨r11002, σ11002, e11002, h⟩ := h
        refine pt_cVi (As := [.int x5, .int a2]) (rest := []) S (m_X2_bestDistance l hDa e11002) (cwV 2 S.2.2.2.2 gX2_packBytes_X2_bestDistance rfl rfl rfl (by decide +kernel) ⟨Nat.le_of_ble_eq_true rfl, Nat.le_of_ble_eq_true rfl⟩) hK hP hS hZ 4 2 rfl rfl rfl hl.1 rfl (Nat.le_of_ble_eq_true rfl) dX2_packBytes_20 ⟨Nat.zero_le _, Nat.zero_le _⟩ (fun H locs hP hS => ?_)
        refine lv_istore (lv' := [(6, .int r11002), (0, .ref (ad 4)), (1, .int a1), (2, .int a2), (3, .int x3), (5, .int x5)]) hx hb dX2_packBytes_23 hl (by decide) rfl (fun ls hl => ?_)
        refine lv_iload hx hb dX2_packBytes_25 (lv_at hl 0 rfl) ?_
        refine lv_if_ne (tgt := 34) hx hb dX2_packBytes_27 (by decide) (fun c11003 => ?_) (fun c11003 => ?_)
        · replace h := pt_iN c11003 h
          refine lv_aload_n hx hb dX2_packBytes_34 rfl (lv_at hl 1 rfl) ?_
          refine lv_iload hx hb dX2_packBytes_35 (lv_at hl 5 rfl) ?_
          refine lv_iload_n hx hb dX2_packBytes_37 rfl (lv_at hl 3 rfl) ?_
          refine lv_iload hx hb dX2_packBytes_38 (lv_at hl 0 rfl) ?_
          replace h := pt_b2s h; obtain ⟨r11007, σ11007, e11007, h⟩ := h
          refine pt_cVi (As := [.int x5, .int a2, .int r11002]) (rest := []) S (m_X2_alike l hDa e11007) (cwV 3 S.2.2.2.2 gX2_packBytes_X2_alike rfl rfl rfl (by decide +kernel) ⟨Nat.le_of_ble_eq_true rfl, Nat.le_of_ble_eq_true rfl⟩) hK hP hS hZ 4 2 rfl rfl rfl hl.1 rfl (Nat.le_of_ble_eq_true rfl) dX2_packBytes_40 ⟨Nat.zero_le _, Nat.zero_le _⟩ (fun H locs hP hS => ?_)
          refine lv_istore (lv' := [(4, .int r11007), (6, .int r11002), (0, .ref (ad 4)), (1, .int a1), (2, .int a2), (3, .int x3), (5, .int x5)]) hx hb dX2_packBytes_43 hl (by decide) rfl (fun ls hl => ?_)
          refine lv_iload hx hb dX2_packBytes_45 (lv_at hl 1 rfl) ?_
          refine lv_if_ne (tgt := 66) hx hb dX2_packBytes_47 (by decide) (fun c11008 => ?_) (fun c11008 => ?_)
          · refine lv_aload_n hx hb dX2_packBytes_66 rfl (lv_at hl 2 rfl) ?_
            refine lv_iload hx hb dX2_packBytes_67 (lv_at hl 0 rfl) ?_
            refine lv_iload hx hb dX2_packBytes_69 (lv_at hl 1 rfl) ?_
            replace h := pt_b1s h; obtain ⟨σ11009, e11009, h⟩ := h
            refine pt_cVv (As := [.int r11007, .int r11002]) (rest := []) S (m_X2_putCopy l hDa e11009) (cwV 2 S.2.2.2.2 gX2_packBytes_X2_putCopy rfl rfl rfl (by decide +kernel) ⟨Nat.le_of_ble_eq_true rfl, Nat.le_of_ble_eq_true rfl⟩) hK hP hS hZ 4 2 rfl rfl rfl hl.1 rfl (Nat.le_of_ble_eq_true rfl) dX2_packBytes_71 ⟨Nat.zero_le _, Nat.zero_le _⟩ (fun H locs hP hS => ?_)
            refine lv_iinc (v := x3 + (1 : Int32)) (lv' := [(3, .int (x3 + (1 : Int32))), (4, .int r11007), (6, .int r11002), (0, .ref (ad 4)), (1, .int a1), (2, .int a2), (5, .int x5)]) hx hb dX2_packBytes_74 hl (k := 5) rfl rfl (by decide) rfl (fun ls hl => ?_)
            refine lv_iload hx hb dX2_packBytes_77 (lv_at hl 6 rfl) ?_
            refine lv_iconst (v := 1) hx hb dX2_packBytes_79 (by decide) ?_
            refine lv_iload hx hb dX2_packBytes_80 (lv_at hl 1 rfl) ?_
            refine va_mmax hx hb (S.2.2.1.trans hl.1.symm) S.2.2.2.1 hm83 hs_max hi_math hc_max (Nat.le_of_ble_eq_true rfl) (Nat.le_of_ble_eq_true rfl) (Nat.zero_le _) (Nat.zero_le _) dX2_packBytes_82 ?_
            refine lv_iadd hx hb dX2_packBytes_85 ?_
            refine lv_istore (lv' := [(5, .int (x5 + (if (1 : Int32) < r11007 then r11007 else (1 : Int32)))), (3, .int (x3 + (1 : Int32))), (4, .int r11007), (6, .int r11002), (0, .ref (ad 4)), (1, .int a1), (2, .int a2)]) hx hb dX2_packBytes_86 hl (by decide) rfl (fun ls hl => ?_)
            refine lv_goto (tgt := 10) hx hb dX2_packBytes_88 (by decide) ?_
            exact ih0 _ _ _ h _ _ _ hP hS (lv_sub hl [4, 5, 6, 1, 0] rfl)
          · exact absurd c11008 c11003
        · replace h := pt_ip c11003 h
          refine lv_iconst (v := 1) hx hb dX2_packBytes_30 (by decide) ?_
          refine lv_goto (tgt := 43) hx hb dX2_packBytes_31 (by decide) ?_
          refine lv_istore (lv' := [(4, .int (1 : Int32)), (6, .int r11002), (0, .ref (ad 4)), (1, .int a1), (2, .int a2), (3, .int x3), (5, .int x5)]) hx hb dX2_packBytes_43 hl (by decide) rfl (fun ls hl => ?_)
          refine lv_iload hx hb dX2_packBytes_45 (lv_at hl 1 rfl) ?_
          refine lv_if_ne (tgt := 66) hx hb dX2_packBytes_47 (by decide) (fun c11004 => ?_) (fun c11004 => ?_)
          · exact absurd c11003 c11004
          · refine lv_aload_n hx hb dX2_packBytes_50 rfl (lv_at hl 2 rfl) ?_
            refine lv_aload_n hx hb dX2_packBytes_51 rfl (lv_at hl 2 rfl) ?_
            refine gf_X2_0 S hiX2 hK hP hf21 dX2_packBytes_52 ?_
            refine lv_iload hx hb dX2_packBytes_55 (lv_at hl 6 rfl) ?_
            replace h := pt_b2s h; obtain ⟨r11005, σ11005, e11005, h⟩ := h
            refine pt_cVi (As := [.int x5]) (rest := [.ref (ad 4)]) S (m_X7_at l hDa e11005) (cwV 1 S.2.2.2.2 gX2_packBytes_X7_at rfl rfl rfl (by decide +kernel) ⟨Nat.le_of_ble_eq_true rfl, Nat.le_of_ble_eq_true rfl⟩) hK hP hS hZ 1 7 rfl rfl rfl hl.1 rfl (Nat.le_of_ble_eq_true rfl) dX2_packBytes_57 ⟨Nat.zero_le _, Nat.zero_le _⟩ (fun H locs hP hS => ?_)
            replace h := pt_b1s h; obtain ⟨σ11006, e11006, h⟩ := h
            refine pt_cVv (As := [.int r11005]) (rest := []) S (m_X2_putByte l hDa e11006) (cwV 1 S.2.2.2.2 gX2_packBytes_X2_putByte rfl rfl rfl (by decide +kernel) ⟨Nat.le_of_ble_eq_true rfl, Nat.le_of_ble_eq_true rfl⟩) hK hP hS hZ 4 2 rfl rfl rfl hl.1 rfl (Nat.le_of_ble_eq_true rfl) dX2_packBytes_60 ⟨Nat.zero_le _, Nat.zero_le _⟩ (fun H locs hP hS => ?_)
            refine lv_goto (tgt := 74) hx hb dX2_packBytes_63 (by decide) ?_
            refine lv_iinc (v := x3 + (1 : Int32)) (lv' := [(3, .int (x3 + (1 : Int32))), (4, .int (1 : Int32)), (6, .int r11002), (0, .ref (ad 4)), (1, .int a1), (2, .int a2), (5, .int x5)]) hx hb dX2_packBytes_74 hl (k := 5) rfl rfl (by decide) rfl (fun ls hl => ?_)
            refine lv_iload hx hb dX2_packBytes_77 (lv_at hl 6 rfl) ?_
            refine lv_iconst (v := 1) hx hb dX2_packBytes_79 (by decide) ?_
            refine lv_iload hx hb dX2_packBytes_80 (lv_at hl 1 rfl) ?_
            refine va_mmax hx hb (S.2.2.1.trans hl.1.symm) S.2.2.2.1 hm83 hs_max hi_math hc_max (Nat.le_of_ble_eq_true rfl) (Nat.le_of_ble_eq_true rfl) (Nat.zero_le _) (Nat.zero_le _) dX2_packBytes_82 ?_
            refine lv_iadd hx hb dX2_packBytes_85 ?_
            refine lv_istore (lv' := [(5, .int (x5 + (if (1 : Int32) < (1 : Int32) then (1 : Int32) else (1 : Int32)))), (3, .int (x3 + (1 : Int32))), (4, .int (1 : Int32)), (6, .int r11002), (0, .ref (ad 4)), (1, .int a1), (2, .int a2)]) hx hb dX2_packBytes_86 hl (by decide) rfl (fun ls hl => ?_)
            refine lv_goto (tgt := 10) hx hb dX2_packBytes_88 (by decide) ?_
            exact ih0 _ _ _ h _ _ _ hP hS (lv_sub hl [4, 5, 6, 1, 0] rfl)
  exact L10 _ _ _ _ h _ _ _ hP hS (lv_sub hl [2, 3, 4, 1, 0] rfl)

def lp_X2_make_23 (k : pt_St → Int32 → Option pt_St) : Nat → pt_St → Int32 → Option pt_St
  | 0, _, _ => none
  | n + 1, σ, x1 =>
    if (σ 4 6) ≤ x1 then
    k σ x1
    else
    if (40 : Int32) ≤ x1 then
    k σ x1
    else
    pt_b2 (f_X5_size σ) fun r24003 σ24003 =>
    pt_b2 (f_X2_bytesOf σ24003 x1) fun r24004 σ24004 =>
    pt_b2 (f_X2_packBytes σ24004 (x1 * r24003) ((x1 * r24003) + r24004)) fun r24005 σ24005 =>
    if pt_in x1 40 then
    pt_do (pt_put σ24005 21 x1.toNatClampNeg r24005) fun σ24007 =>
    pt_do (pt_put σ24007 20 x1.toNatClampNeg (σ24007 4 5)) fun σ24008 =>
    lp_X2_make_23 k n σ24008 (x1 + (1 : Int32))
    else none
def kx_X2_make_23 (σ : pt_St) (x1 : Int32) : Option pt_St :=
  pt_do (pt_put σ 4 8 (1 : Int32)) fun σ24501 =>
  some σ24501
def f_X2_make (σ : pt_St) : Option pt_St :=
  if (σ 4 8) = (0 : Int32) then
  pt_do (pt_put σ 4 5 (0 : Int32)) fun σ2 =>
  pt_b2 (f_X2_blocksOfText σ2) fun r3 σ3 =>
  pt_do (pt_put σ3 4 6 r3) fun σ4 =>
  lp_X2_make_23 (kx_X2_make_23) pt_F σ4 (0 : Int32)
  else
  some σ
set_option maxHeartbeats 4000000 in
set_option maxRecDepth 100000 in
theorem m_X2_make (l : Launch) {D : va_G} {A : Nat → Prop} {ca : Nat → ClassId} {ad : Nat → Nat} {z : Nat × Nat} (hDa : ∀ σ, va_D A (wC ca ad σ)) {σ σ' : pt_St} (h : f_X2_make σ = some σ') : Met l yX2_make wsX2_make { frames := 4, cells := 0, slots := 0, locals := 98 } (va_Pc [.ref (ad 4)] (pt_Pre D (tysC ca) z A (wC ca ad σ))) (pt_Q none D (wC ca ad σ') A) 0 0 A := by
  refine Met.ofW (cc := cX2_make) (maxL := 3) (ret := none) (by decide) rfl ?_
  intro p e s m args below meth c s₁ B hml hv
  obtain ⟨rfl, hP, hK, hZ⟩ := hv
  have S : CallFix p m c cX2_make 3 s ([.ref (ad 4)] : List Value).toArray wsX2_make RX2 := ⟨B.exec, B.bytes, hml, findClass_of_methodNamed B.named, atoms_spec (ws := wsX2_make) B.pre⟩
  have hx := S.1
  have hb := S.2.1
  have hr := B.returns
  have hlk := B.notSynchronized
  clear B
  have hiX2 : ∀ w ∈ wsX20, w ∈ wsX2_make := fun w h => List.mem_cons_of_mem _ (List.mem_append_left _ (List.mem_append_left _ (List.mem_append_right _ h)))
  have hiX5 : ∀ w ∈ wsX50, w ∈ wsX2_make := fun w h => List.mem_cons_of_mem _ (List.mem_append_left _ (List.mem_append_right _ h))
  have hiX7 : ∀ w ∈ wsX70, w ∈ wsX2_make := fun w h => List.mem_cons_of_mem _ (List.mem_append_right _ h)
  have hf29 : (Cond.fieldLink RX2 29 "PackThreads$Packs" "made" "Z").before _ s = true := S.2.2.2.2 _ (List.mem_of_getElem? (i := 1) rfl)
  have hf33 : (Cond.fieldLink RX2 33 "PackThreads$Packs" "count" "I").before _ s = true := S.2.2.2.2 _ (List.mem_of_getElem? (i := 2) rfl)
  have hf41 : (Cond.fieldLink RX2 41 "PackThreads$Packs" "blocks" "I").before _ s = true := S.2.2.2.2 _ (List.mem_of_getElem? (i := 3) rfl)
  have hf25 : (Cond.fieldLink RX2 25 "PackThreads$Packs" "settings" "LPackThreads$Settings;").before _ s = true := S.2.2.2.2 _ (List.mem_of_getElem? (i := 4) rfl)
  have hf18 : (Cond.fieldLink RX2 18 "PackThreads$Packs" "tokens" "[I").before _ s = true := S.2.2.2.2 _ (List.mem_of_getElem? (i := 5) rfl)
  have hf15 : (Cond.fieldLink RX2 15 "PackThreads$Packs" "ends" "[I").before _ s = true := S.2.2.2.2 _ (List.mem_of_getElem? (i := 6) rfl)
  have hS : va_S A s.heap s.heap [] := va_S.rf
  have hl := lv_entry ([.ref (ad 4)]) (n := 3) (Nat.le_of_ble_eq_true rfl)
  rw [lg_entry_eq]
  generalize (lg_sl ([.ref (ad 4)]) ++ List.replicate (3 - (lg_sl ([.ref (ad 4)])).length) Slot.unset).toArray = ls at hl ⊢
  have hl : lv_has ls 3 [(0, .ref (ad 4))] := hl
  unfold f_X2_make at h
  refine lv_aload_n hx hb dX2_make_0 rfl (lv_at hl 0 rfl) ?_
  refine gf_X2_8 S hiX2 hK hP hf29 dX2_make_1 ?_
  refine lv_if_eq (tgt := 8) hx hb dX2_make_4 (by decide) (fun c1 => ?_) (fun c1 => ?_)
  · replace h := pt_ip c1 h
    refine lv_aload_n hx hb dX2_make_8 rfl (lv_at hl 0 rfl) ?_
    refine lv_iconst (v := 0) hx hb dX2_make_9 (by decide) ?_
    replace h := pt_dos h; obtain ⟨σ2, e2, h⟩ := h
    refine pf_X2_5 S hiX2 hK hP hDa hS hf33 e2 dX2_make_10 (fun H locs hP hS => ?_)
    refine lv_aload_n hx hb dX2_make_13 rfl (lv_at hl 0 rfl) ?_
    refine lv_aload_n hx hb dX2_make_14 rfl (lv_at hl 0 rfl) ?_
    replace h := pt_b2s h; obtain ⟨r3, σ3, e3, h⟩ := h
    refine pt_cVi (As := []) (rest := [.ref (ad 4)]) S (m_X2_blocksOfText l hDa e3) (cwV 0 S.2.2.2.2 gX2_make_X2_blocksOfText rfl rfl rfl (by decide +kernel) ⟨Nat.le_of_ble_eq_true rfl, Nat.le_of_ble_eq_true rfl⟩) hK hP hS hZ 4 2 rfl rfl rfl hl.1 rfl (Nat.le_of_ble_eq_true rfl) dX2_make_15 ⟨Nat.zero_le _, Nat.zero_le _⟩ (fun H locs hP hS => ?_)
    replace h := pt_dos h; obtain ⟨σ4, e4, h⟩ := h
    refine pf_X2_6 S hiX2 hK hP hDa hS hf41 e4 dX2_make_18 (fun H locs hP hS => ?_)
    refine lv_iconst (v := 0) hx hb dX2_make_21 (by decide) ?_
    refine lv_istore_n (lv' := [(1, .int (0 : Int32)), (0, .ref (ad 4))]) hx hb dX2_make_22 rfl hl (by decide) rfl (fun ls hl => ?_)
    have X23 : ∀ (σ : pt_St) (x1 : Int32), kx_X2_make_23 σ x1 = some σ' → ∀ (H : Heap) (locs : List Loc) (ls : Array Slot), va_P D vwCl (wC ca ad σ) H → va_S A s.heap H locs → lv_has ls 3 [(0, .ref (ad 4)), (1, .int x1)] → W p l e (headSpec wsX2_make { frames := 4, cells := 0, slots := 0, locals := 98 }).room s m ([.ref (ad 4)] : List Value).toArray below meth c H locs 0 0 (MQ below (pt_Q none D (wC ca ad σ') A) ([.ref (ad 4)] : List Value).toArray s 0 0 A) (F0 m 81 ls []) := by
      intro σ x1 h H locs ls hP hS hl
      unfold kx_X2_make_23 at h
      refine lv_aload_n hx hb dX2_make_81 rfl (lv_at hl 0 rfl) ?_
      refine lv_iconst (v := 1) hx hb dX2_make_82 (by decide) ?_
      replace h := pt_dos h; obtain ⟨σ24501, e24501, h⟩ := h
      refine pf_X2_8 S hiX2 hK hP hDa hS hf29 (Or.inr rfl) e24501 dX2_make_83 (fun H locs hP hS => ?_)
      exact pt_vret S hr hlk hP hS (congrArg (wC ca ad) (pt_so h)) dX2_make_86
    have L23 : ∀ (n : Nat) (σ : pt_St) (x1 : Int32),  lp_X2_make_23 (kx_X2_make_23) n σ x1 = some σ' → ∀ (H : Heap) (locs : List Loc) (ls : Array Slot), va_P D vwCl (wC ca ad σ) H → va_S A s.heap H locs → lv_has ls 3 [(0, .ref (ad 4)), (1, .int x1)] → W p l e (headSpec wsX2_make { frames := 4, cells := 0, slots := 0, locals := 98 }).room s m ([.ref (ad 4)] : List Value).toArray below meth c H locs 0 0 (MQ below (pt_Q none D (wC ca ad σ') A) ([.ref (ad 4)] : List Value).toArray s 0 0 A) (F0 m 23 ls []) := by
      intro n
      induction n with
      | zero => intro σ x1 h; cases h
      | succ n ih0 =>
        intro σ x1 h H locs ls hP hS hl
        rw [lp_X2_make_23] at h
        refine lv_iload_n hx hb dX2_make_23 rfl (lv_at hl 1 rfl) ?_
        refine lv_aload_n hx hb dX2_make_24 rfl (lv_at hl 0 rfl) ?_
        refine gf_X2_6 S hiX2 hK hP hf41 dX2_make_25 ?_
        refine lv_icmp_ge (tgt := 81) hx hb dX2_make_28 (by decide) (fun c24001 => ?_) (fun c24001 => ?_)
        · replace h := pt_ip c24001 h
          exact X23 _ _ h _ _ _ hP hS (lv_sub hl [0, 1] rfl)
        · replace h := pt_iN c24001 h
          refine lv_iload_n hx hb dX2_make_31 rfl (lv_at hl 1 rfl) ?_
          refine lv_bipush (v := 40) hx hb dX2_make_32 (by decide) ?_
          refine lv_icmp_ge (tgt := 81) hx hb dX2_make_34 (by decide) (fun c24002 => ?_) (fun c24002 => ?_)
          · replace h := pt_ip c24002 h
            exact X23 _ _ h _ _ _ hP hS (lv_sub hl [0, 1] rfl)
          · replace h := pt_iN c24002 h
            refine lv_iload_n hx hb dX2_make_37 rfl (lv_at hl 1 rfl) ?_
            refine lv_aload_n hx hb dX2_make_38 rfl (lv_at hl 0 rfl) ?_
            refine gf_X2_1 S hiX2 hK hP hf25 dX2_make_39 ?_
            replace h := pt_b2s h; obtain ⟨r24003, σ24003, e24003, h⟩ := h
            refine pt_cVi (As := []) (rest := [.int x1]) S (m_X5_size l hDa e24003) (cwV 0 S.2.2.2.2 gX2_make_X5_size rfl rfl rfl (by decide +kernel) ⟨Nat.le_of_ble_eq_true rfl, Nat.le_of_ble_eq_true rfl⟩) hK hP hS hZ 2 5 rfl rfl rfl hl.1 rfl (Nat.le_of_ble_eq_true rfl) dX2_make_42 ⟨Nat.zero_le _, Nat.zero_le _⟩ (fun H locs hP hS => ?_)
            refine lv_imul hx hb dX2_make_45 ?_
            refine lv_istore_n (lv' := [(2, .int (x1 * r24003)), (0, .ref (ad 4)), (1, .int x1)]) hx hb dX2_make_46 rfl hl (by decide) rfl (fun ls hl => ?_)
            refine lv_aload_n hx hb dX2_make_47 rfl (lv_at hl 1 rfl) ?_
            refine gf_X2_4 S hiX2 hK hP hf18 dX2_make_48 ?_
            refine lv_iload_n hx hb dX2_make_51 rfl (lv_at hl 2 rfl) ?_
            refine lv_aload_n hx hb dX2_make_52 rfl (lv_at hl 1 rfl) ?_
            refine lv_iload_n hx hb dX2_make_53 rfl (lv_at hl 0 rfl) ?_
            refine lv_iload_n hx hb dX2_make_54 rfl (lv_at hl 0 rfl) ?_
            refine lv_aload_n hx hb dX2_make_55 rfl (lv_at hl 1 rfl) ?_
            refine lv_iload_n hx hb dX2_make_56 rfl (lv_at hl 2 rfl) ?_
            replace h := pt_b2s h; obtain ⟨r24004, σ24004, e24004, h⟩ := h
            refine pt_cVi (As := [.int x1]) (rest := [.int (x1 * r24003), .int (x1 * r24003), .ref (ad 4), .int x1, .ref (ad 21)]) S (m_X2_bytesOf l hDa e24004) (cwV 1 S.2.2.2.2 gX2_make_X2_bytesOf rfl rfl rfl (by decide +kernel) ⟨Nat.le_of_ble_eq_true rfl, Nat.le_of_ble_eq_true rfl⟩) hK hP hS hZ 4 2 rfl rfl rfl hl.1 rfl (Nat.le_of_ble_eq_true rfl) dX2_make_57 ⟨Nat.zero_le _, Nat.zero_le _⟩ (fun H locs hP hS => ?_)
            refine lv_iadd hx hb dX2_make_60 ?_
            replace h := pt_b2s h; obtain ⟨r24005, σ24005, e24005, h⟩ := h
            refine pt_cVi (As := [.int (x1 * r24003), .int ((x1 * r24003) + r24004)]) (rest := [.int x1, .ref (ad 21)]) S (m_X2_packBytes l hDa e24005) (cwV 2 S.2.2.2.2 gX2_make_X2_packBytes rfl rfl rfl (by decide +kernel) ⟨Nat.le_of_ble_eq_true rfl, Nat.le_of_ble_eq_true rfl⟩) hK hP hS hZ 4 2 rfl rfl rfl hl.1 rfl (Nat.le_of_ble_eq_true rfl) dX2_make_61 ⟨Nat.zero_le _, Nat.zero_le _⟩ (fun H locs hP hS => ?_)
            replace h := pt_gd h; obtain ⟨g24006, h⟩ := h
            replace h := pt_dos h; obtain ⟨σ24007, e24007, h⟩ := h
            refine st_C_21 S hK hP hDa hS g24006 e24007 dX2_make_64 (fun H locs hP hS => ?_)
            refine lv_aload_n hx hb dX2_make_65 rfl (lv_at hl 1 rfl) ?_
            refine gf_X2_3 S hiX2 hK hP hf15 dX2_make_66 ?_
            refine lv_iload_n hx hb dX2_make_69 rfl (lv_at hl 2 rfl) ?_
            refine lv_aload_n hx hb dX2_make_70 rfl (lv_at hl 1 rfl) ?_
            refine gf_X2_5 S hiX2 hK hP hf33 dX2_make_71 ?_
            replace h := pt_dos h; obtain ⟨σ24008, e24008, h⟩ := h
            refine st_C_20 S hK hP hDa hS g24006 e24008 dX2_make_74 (fun H locs hP hS => ?_)
            refine lv_iinc (v := x1 + (1 : Int32)) (lv' := [(1, .int (x1 + (1 : Int32))), (2, .int (x1 * r24003)), (0, .ref (ad 4))]) hx hb dX2_make_75 hl (k := 2) rfl rfl (by decide) rfl (fun ls hl => ?_)
            refine lv_goto (tgt := 23) hx hb dX2_make_78 (by decide) ?_
            exact ih0 _ _ h _ _ _ hP hS (lv_sub hl [2, 0] rfl)
    exact L23 _ _ _ h _ _ _ hP hS (lv_sub hl [1, 0] rfl)
  · replace h := pt_iN c1 h
    exact pt_vret S hr hlk hP hS (congrArg (wC ca ad) (pt_so h)) dX2_make_7

def f_X2_blocks (σ : pt_St) : Option (Int32 × pt_St) :=
  some ((σ 4 6), σ)
set_option maxHeartbeats 4000000 in
set_option maxRecDepth 100000 in
theorem m_X2_blocks (l : Launch) {D : va_G} {A : Nat → Prop} {ca : Nat → ClassId} {ad : Nat → Nat} {z : Nat × Nat} (hDa : ∀ σ, va_D A (wC ca ad σ)) {σ σ' : pt_St} {r : Int32} (h : f_X2_blocks σ = some (r, σ')) : Met l yX2_blocks wsX2_blocks { frames := 0, cells := 0, slots := 0, locals := 0 } (va_Pc [.ref (ad 4)] (pt_Pre D (tysC ca) z A (wC ca ad σ))) (pt_Q (some (.int r)) D (wC ca ad σ') A) 0 0 A := by
  refine Met.ofW (cc := cX2_blocks) (maxL := 1) (ret := (some .int)) (by decide) rfl ?_
  intro p e s m args below meth c s₁ B hml hv
  obtain ⟨rfl, hP, hK, hZ⟩ := hv
  have S : CallFix p m c cX2_blocks 1 s ([.ref (ad 4)] : List Value).toArray wsX2_blocks RX2 := ⟨B.exec, B.bytes, hml, findClass_of_methodNamed B.named, atoms_spec (ws := wsX2_blocks) B.pre⟩
  have hx := S.1
  have hb := S.2.1
  have hr := B.returns
  have hlk := B.notSynchronized
  clear B
  have hiX2 : ∀ w ∈ wsX20, w ∈ wsX2_blocks := fun w h => List.mem_cons_of_mem _ (List.mem_append_right _ h)
  have hf41 : (Cond.fieldLink RX2 41 "PackThreads$Packs" "blocks" "I").before _ s = true := S.2.2.2.2 _ (List.mem_of_getElem? (i := 1) rfl)
  have hS : va_S A s.heap s.heap [] := va_S.rf
  have hl := lv_entry ([.ref (ad 4)]) (n := 1) (Nat.le_of_ble_eq_true rfl)
  rw [lg_entry_eq]
  generalize (lg_sl ([.ref (ad 4)]) ++ List.replicate (1 - (lg_sl ([.ref (ad 4)])).length) Slot.unset).toArray = ls at hl ⊢
  have hl : lv_has ls 1 [(0, .ref (ad 4))] := hl
  unfold f_X2_blocks at h
  refine lv_aload_n hx hb dX2_blocks_0 rfl (lv_at hl 0 rfl) ?_
  refine gf_X2_6 S hiX2 hK hP hf41 dX2_blocks_1 ?_
  exact pt_iret S hr hlk hP hS (pt_pr h).1 (congrArg (wC ca ad) (pt_pr h).2) dX2_blocks_4

def f_X2_tokensOf (σ : pt_St) (a1 : Int32) : Option (Int32 × pt_St) :=
  if a1 < (0 : Int32) then
  some ((0 : Int32), σ)
  else
  if (40 : Int32) ≤ a1 then
  some ((0 : Int32), σ)
  else
  if pt_in a1 40 then
  some ((σ 21 a1.toNatClampNeg), σ)
  else none
set_option maxHeartbeats 4000000 in
set_option maxRecDepth 100000 in
theorem m_X2_tokensOf (l : Launch) {D : va_G} {A : Nat → Prop} {ca : Nat → ClassId} {ad : Nat → Nat} {z : Nat × Nat} (hDa : ∀ σ, va_D A (wC ca ad σ)) {σ σ' : pt_St} {r : Int32} {a1 : Int32} (h : f_X2_tokensOf σ a1 = some (r, σ')) : Met l yX2_tokensOf wsX2_tokensOf { frames := 0, cells := 0, slots := 0, locals := 0 } (va_Pc [.ref (ad 4), .int a1] (pt_Pre D (tysC ca) z A (wC ca ad σ))) (pt_Q (some (.int r)) D (wC ca ad σ') A) 0 0 A := by
  refine Met.ofW (cc := cX2_tokensOf) (maxL := 2) (ret := (some .int)) (by decide) rfl ?_
  intro p e s m args below meth c s₁ B hml hv
  obtain ⟨rfl, hP, hK, hZ⟩ := hv
  have S : CallFix p m c cX2_tokensOf 2 s ([.ref (ad 4), .int a1] : List Value).toArray wsX2_tokensOf RX2 := ⟨B.exec, B.bytes, hml, findClass_of_methodNamed B.named, atoms_spec (ws := wsX2_tokensOf) B.pre⟩
  have hx := S.1
  have hb := S.2.1
  have hr := B.returns
  have hlk := B.notSynchronized
  clear B
  have hiX2 : ∀ w ∈ wsX20, w ∈ wsX2_tokensOf := fun w h => List.mem_cons_of_mem _ (List.mem_append_right _ h)
  have hf18 : (Cond.fieldLink RX2 18 "PackThreads$Packs" "tokens" "[I").before _ s = true := S.2.2.2.2 _ (List.mem_of_getElem? (i := 1) rfl)
  have hS : va_S A s.heap s.heap [] := va_S.rf
  have hl := lv_entry ([.ref (ad 4), .int a1]) (n := 2) (Nat.le_of_ble_eq_true rfl)
  rw [lg_entry_eq]
  generalize (lg_sl ([.ref (ad 4), .int a1]) ++ List.replicate (2 - (lg_sl ([.ref (ad 4), .int a1])).length) Slot.unset).toArray = ls at hl ⊢
  have hl : lv_has ls 2 [(0, .ref (ad 4)), (1, .int a1)] := hl
  unfold f_X2_tokensOf at h
  refine lv_iload_n hx hb dX2_tokensOf_0 rfl (lv_at hl 1 rfl) ?_
  refine lv_if_lt (tgt := 22) hx hb dX2_tokensOf_1 (by decide) (fun c1 => ?_) (fun c1 => ?_)
  · replace h := pt_ip c1 h
    refine lv_iconst (v := 0) hx hb dX2_tokensOf_22 (by decide) ?_
    exact pt_iret S hr hlk hP hS (pt_pr h).1 (congrArg (wC ca ad) (pt_pr h).2) dX2_tokensOf_23
  · replace h := pt_iN c1 h
    refine lv_iload_n hx hb dX2_tokensOf_4 rfl (lv_at hl 1 rfl) ?_
    refine lv_aload_n hx hb dX2_tokensOf_5 rfl (lv_at hl 0 rfl) ?_
    refine gf_X2_4 S hiX2 hK hP hf18 dX2_tokensOf_6 ?_
    refine ln_C_21 S hK hP dX2_tokensOf_9 ?_
    refine lv_icmp_ge (tgt := 22) hx hb dX2_tokensOf_10 (by decide) (fun c2 => ?_) (fun c2 => ?_)
    · replace h := pt_ip c2 h
      refine lv_iconst (v := 0) hx hb dX2_tokensOf_22 (by decide) ?_
      exact pt_iret S hr hlk hP hS (pt_pr h).1 (congrArg (wC ca ad) (pt_pr h).2) dX2_tokensOf_23
    · replace h := pt_iN c2 h
      refine lv_aload_n hx hb dX2_tokensOf_13 rfl (lv_at hl 0 rfl) ?_
      refine gf_X2_4 S hiX2 hK hP hf18 dX2_tokensOf_14 ?_
      refine lv_iload_n hx hb dX2_tokensOf_17 rfl (lv_at hl 1 rfl) ?_
      replace h := pt_gd h; obtain ⟨g3, h⟩ := h
      refine ld_C_21 S hK hP g3 dX2_tokensOf_18 ?_
      refine lv_goto (tgt := 23) hx hb dX2_tokensOf_19 (by decide) ?_
      exact pt_iret S hr hlk hP hS (pt_pr h).1 (congrArg (wC ca ad) (pt_pr h).2) dX2_tokensOf_23

def f_X2_byteAt (σ : pt_St) (a1 : Int32) : Option (Int32 × pt_St) :=
  if a1 < (0 : Int32) then
  some ((-1 : Int32), σ)
  else
  if (σ 4 5) ≤ a1 then
  some ((-1 : Int32), σ)
  else
  if (240 : Int32) ≤ a1 then
  some ((-1 : Int32), σ)
  else
  if pt_in a1 240 then
  some ((σ 19 a1.toNatClampNeg), σ)
  else none
set_option maxHeartbeats 4000000 in
set_option maxRecDepth 100000 in
theorem m_X2_byteAt (l : Launch) {D : va_G} {A : Nat → Prop} {ca : Nat → ClassId} {ad : Nat → Nat} {z : Nat × Nat} (hDa : ∀ σ, va_D A (wC ca ad σ)) {σ σ' : pt_St} {r : Int32} {a1 : Int32} (h : f_X2_byteAt σ a1 = some (r, σ')) : Met l yX2_byteAt wsX2_byteAt { frames := 0, cells := 0, slots := 0, locals := 0 } (va_Pc [.ref (ad 4), .int a1] (pt_Pre D (tysC ca) z A (wC ca ad σ))) (pt_Q (some (.int r)) D (wC ca ad σ') A) 0 0 A := by
  refine Met.ofW (cc := cX2_byteAt) (maxL := 2) (ret := (some .int)) (by decide) rfl ?_
  intro p e s m args below meth c s₁ B hml hv
  obtain ⟨rfl, hP, hK, hZ⟩ := hv
  have S : CallFix p m c cX2_byteAt 2 s ([.ref (ad 4), .int a1] : List Value).toArray wsX2_byteAt RX2 := ⟨B.exec, B.bytes, hml, findClass_of_methodNamed B.named, atoms_spec (ws := wsX2_byteAt) B.pre⟩
  have hx := S.1
  have hb := S.2.1
  have hr := B.returns
  have hlk := B.notSynchronized
  clear B
  have hiX2 : ∀ w ∈ wsX20, w ∈ wsX2_byteAt := fun w h => List.mem_cons_of_mem _ (List.mem_append_right _ h)
  have hf33 : (Cond.fieldLink RX2 33 "PackThreads$Packs" "count" "I").before _ s = true := S.2.2.2.2 _ (List.mem_of_getElem? (i := 1) rfl)
  have hf9 : (Cond.fieldLink RX2 9 "PackThreads$Packs" "bytes" "[I").before _ s = true := S.2.2.2.2 _ (List.mem_of_getElem? (i := 2) rfl)
  have hS : va_S A s.heap s.heap [] := va_S.rf
  have hl := lv_entry ([.ref (ad 4), .int a1]) (n := 2) (Nat.le_of_ble_eq_true rfl)
  rw [lg_entry_eq]
  generalize (lg_sl ([.ref (ad 4), .int a1]) ++ List.replicate (2 - (lg_sl ([.ref (ad 4), .int a1])).length) Slot.unset).toArray = ls at hl ⊢
  have hl : lv_has ls 2 [(0, .ref (ad 4)), (1, .int a1)] := hl
  unfold f_X2_byteAt at h
  refine lv_iload_n hx hb dX2_byteAt_0 rfl (lv_at hl 1 rfl) ?_
  refine lv_if_lt (tgt := 30) hx hb dX2_byteAt_1 (by decide) (fun c1 => ?_) (fun c1 => ?_)
  · replace h := pt_ip c1 h
    refine lv_iconst (v := -1) hx hb dX2_byteAt_30 (by decide) ?_
    exact pt_iret S hr hlk hP hS (pt_pr h).1 (congrArg (wC ca ad) (pt_pr h).2) dX2_byteAt_31
  · replace h := pt_iN c1 h
    refine lv_iload_n hx hb dX2_byteAt_4 rfl (lv_at hl 1 rfl) ?_
    refine lv_aload_n hx hb dX2_byteAt_5 rfl (lv_at hl 0 rfl) ?_
    refine gf_X2_5 S hiX2 hK hP hf33 dX2_byteAt_6 ?_
    refine lv_icmp_ge (tgt := 30) hx hb dX2_byteAt_9 (by decide) (fun c2 => ?_) (fun c2 => ?_)
    · replace h := pt_ip c2 h
      refine lv_iconst (v := -1) hx hb dX2_byteAt_30 (by decide) ?_
      exact pt_iret S hr hlk hP hS (pt_pr h).1 (congrArg (wC ca ad) (pt_pr h).2) dX2_byteAt_31
    · replace h := pt_iN c2 h
      refine lv_iload_n hx hb dX2_byteAt_12 rfl (lv_at hl 1 rfl) ?_
      refine lv_aload_n hx hb dX2_byteAt_13 rfl (lv_at hl 0 rfl) ?_
      refine gf_X2_2 S hiX2 hK hP hf9 dX2_byteAt_14 ?_
      refine ln_C_19 S hK hP dX2_byteAt_17 ?_
      refine lv_icmp_ge (tgt := 30) hx hb dX2_byteAt_18 (by decide) (fun c3 => ?_) (fun c3 => ?_)
      · replace h := pt_ip c3 h
        refine lv_iconst (v := -1) hx hb dX2_byteAt_30 (by decide) ?_
        exact pt_iret S hr hlk hP hS (pt_pr h).1 (congrArg (wC ca ad) (pt_pr h).2) dX2_byteAt_31
      · replace h := pt_iN c3 h
        refine lv_aload_n hx hb dX2_byteAt_21 rfl (lv_at hl 0 rfl) ?_
        refine gf_X2_2 S hiX2 hK hP hf9 dX2_byteAt_22 ?_
        refine lv_iload_n hx hb dX2_byteAt_25 rfl (lv_at hl 1 rfl) ?_
        replace h := pt_gd h; obtain ⟨g4, h⟩ := h
        refine ld_C_19 S hK hP g4 dX2_byteAt_26 ?_
        refine lv_goto (tgt := 31) hx hb dX2_byteAt_27 (by decide) ?_
        exact pt_iret S hr hlk hP hS (pt_pr h).1 (congrArg (wC ca ad) (pt_pr h).2) dX2_byteAt_31

def f_X2_lengthOfFirst (σ : pt_St) (a1 : Int32) : Option (Int32 × pt_St) :=
  if a1 < (1 : Int32) then
  some ((0 : Int32), σ)
  else
  if (40 : Int32) < a1 then
  some ((0 : Int32), σ)
  else
  if pt_in (a1 - (1 : Int32)) 40 then
  some ((σ 20 (a1 - (1 : Int32)).toNatClampNeg), σ)
  else none
set_option maxHeartbeats 4000000 in
set_option maxRecDepth 100000 in
theorem m_X2_lengthOfFirst (l : Launch) {D : va_G} {A : Nat → Prop} {ca : Nat → ClassId} {ad : Nat → Nat} {z : Nat × Nat} (hDa : ∀ σ, va_D A (wC ca ad σ)) {σ σ' : pt_St} {r : Int32} {a1 : Int32} (h : f_X2_lengthOfFirst σ a1 = some (r, σ')) : Met l yX2_lengthOfFirst wsX2_lengthOfFirst { frames := 0, cells := 0, slots := 0, locals := 0 } (va_Pc [.ref (ad 4), .int a1] (pt_Pre D (tysC ca) z A (wC ca ad σ))) (pt_Q (some (.int r)) D (wC ca ad σ') A) 0 0 A := by
  refine Met.ofW (cc := cX2_lengthOfFirst) (maxL := 2) (ret := (some .int)) (by decide) rfl ?_
  intro p e s m args below meth c s₁ B hml hv
  obtain ⟨rfl, hP, hK, hZ⟩ := hv
  have S : CallFix p m c cX2_lengthOfFirst 2 s ([.ref (ad 4), .int a1] : List Value).toArray wsX2_lengthOfFirst RX2 := ⟨B.exec, B.bytes, hml, findClass_of_methodNamed B.named, atoms_spec (ws := wsX2_lengthOfFirst) B.pre⟩
  have hx := S.1
  have hb := S.2.1
  have hr := B.returns
  have hlk := B.notSynchronized
  clear B
  have hiX2 : ∀ w ∈ wsX20, w ∈ wsX2_lengthOfFirst := fun w h => List.mem_cons_of_mem _ (List.mem_append_right _ h)
  have hf15 : (Cond.fieldLink RX2 15 "PackThreads$Packs" "ends" "[I").before _ s = true := S.2.2.2.2 _ (List.mem_of_getElem? (i := 1) rfl)
  have hS : va_S A s.heap s.heap [] := va_S.rf
  have hl := lv_entry ([.ref (ad 4), .int a1]) (n := 2) (Nat.le_of_ble_eq_true rfl)
  rw [lg_entry_eq]
  generalize (lg_sl ([.ref (ad 4), .int a1]) ++ List.replicate (2 - (lg_sl ([.ref (ad 4), .int a1])).length) Slot.unset).toArray = ls at hl ⊢
  have hl : lv_has ls 2 [(0, .ref (ad 4)), (1, .int a1)] := hl
  unfold f_X2_lengthOfFirst at h
  refine lv_iload_n hx hb dX2_lengthOfFirst_0 rfl (lv_at hl 1 rfl) ?_
  refine lv_iconst (v := 1) hx hb dX2_lengthOfFirst_1 (by decide) ?_
  refine lv_icmp_lt (tgt := 25) hx hb dX2_lengthOfFirst_2 (by decide) (fun c1 => ?_) (fun c1 => ?_)
  · replace h := pt_ip c1 h
    refine lv_iconst (v := 0) hx hb dX2_lengthOfFirst_25 (by decide) ?_
    exact pt_iret S hr hlk hP hS (pt_pr h).1 (congrArg (wC ca ad) (pt_pr h).2) dX2_lengthOfFirst_26
  · replace h := pt_iN c1 h
    refine lv_iload_n hx hb dX2_lengthOfFirst_5 rfl (lv_at hl 1 rfl) ?_
    refine lv_aload_n hx hb dX2_lengthOfFirst_6 rfl (lv_at hl 0 rfl) ?_
    refine gf_X2_3 S hiX2 hK hP hf15 dX2_lengthOfFirst_7 ?_
    refine ln_C_20 S hK hP dX2_lengthOfFirst_10 ?_
    refine lv_icmp_gt (tgt := 25) hx hb dX2_lengthOfFirst_11 (by decide) (fun c2 => ?_) (fun c2 => ?_)
    · replace h := pt_ip c2 h
      refine lv_iconst (v := 0) hx hb dX2_lengthOfFirst_25 (by decide) ?_
      exact pt_iret S hr hlk hP hS (pt_pr h).1 (congrArg (wC ca ad) (pt_pr h).2) dX2_lengthOfFirst_26
    · replace h := pt_iN c2 h
      refine lv_aload_n hx hb dX2_lengthOfFirst_14 rfl (lv_at hl 0 rfl) ?_
      refine gf_X2_3 S hiX2 hK hP hf15 dX2_lengthOfFirst_15 ?_
      refine lv_iload_n hx hb dX2_lengthOfFirst_18 rfl (lv_at hl 1 rfl) ?_
      refine lv_iconst (v := 1) hx hb dX2_lengthOfFirst_19 (by decide) ?_
      refine lv_isub hx hb dX2_lengthOfFirst_20 ?_
      replace h := pt_gd h; obtain ⟨g3, h⟩ := h
      refine ld_C_20 S hK hP g3 dX2_lengthOfFirst_21 ?_
      refine lv_goto (tgt := 26) hx hb dX2_lengthOfFirst_22 (by decide) ?_
      exact pt_iret S hr hlk hP hS (pt_pr h).1 (congrArg (wC ca ad) (pt_pr h).2) dX2_lengthOfFirst_26
