def f_X9_type (σ : pt_St) (a1 : Int32) : Option (Int32 × pt_St) :=
  if a1 < (0 : Int32) then
  some ((-2 : Int32), σ)
  else
  if a1 ≤ (255 : Int32) then
  if (σ 0 5) = (0 : Int32) then
  pt_b2 (f_X7_isFull σ) fun r4 σ4 =>
  if r4 = (0 : Int32) then
  pt_b1 (f_X7_add σ4 a1) fun σ6 =>
  pt_b1 (f_X2_forget σ6) fun σ7 =>
  pt_b2 (f_X7_length σ7) fun r8 σ8 =>
  some (r8, σ8)
  else
  some ((-4 : Int32), σ4)
  else
  some ((-3 : Int32), σ)
  else
  some ((-2 : Int32), σ)
set_option maxHeartbeats 4000000 in
set_option maxRecDepth 100000 in
theorem m_X9_type (l : Launch) {D : va_G} {A : Nat → Prop} {ca : Nat → ClassId} {ad : Nat → Nat} {z : Nat × Nat} (hDa : ∀ σ, va_D A (wC ca ad σ)) {σ σ' : pt_St} {r : Int32} {a1 : Int32} (h : f_X9_type σ a1 = some (r, σ')) : Met l yX9_type wsX9_type { frames := 1, cells := 0, slots := 0, locals := 21 } (va_Pc [.ref (ad 0), .int a1] (pt_Pre D (tysC ca) z A (wC ca ad σ))) (pt_Q (some (.int r)) D (wC ca ad σ') A) 0 0 A := by
  refine Met.ofW (cc := cX9_type) (maxL := 2) (ret := (some .int)) (by decide) rfl ?_
  intro p e s m args below meth c s₁ B hml hv
  obtain ⟨rfl, hP, hK, hZ⟩ := hv
  have S : CallFix p m c cX9_type 2 s ([.ref (ad 0), .int a1] : List Value).toArray wsX9_type RX9 := ⟨B.exec, B.bytes, hml, findClass_of_methodNamed B.named, atoms_spec (ws := wsX9_type) B.pre⟩
  have hx := S.1
  have hb := S.2.1
  have hr := B.returns
  have hlk := B.notSynchronized
  clear B
  have hiX9 : ∀ w ∈ wsX90, w ∈ wsX9_type := fun w h => List.mem_cons_of_mem _ (List.mem_append_left _ (List.mem_append_left _ (List.mem_append_right _ h)))
  have hiX7 : ∀ w ∈ wsX70, w ∈ wsX9_type := fun w h => List.mem_cons_of_mem _ (List.mem_append_left _ (List.mem_append_right _ h))
  have hiX2 : ∀ w ∈ wsX20, w ∈ wsX9_type := fun w h => List.mem_cons_of_mem _ (List.mem_append_right _ h)
  have hf48 : (Cond.fieldLink RX9 48 "PackThreads" "begun" "Z").before _ s = true := S.2.2.2.2 _ (List.mem_of_getElem? (i := 1) rfl)
  have hf12 : (Cond.fieldLink RX9 12 "PackThreads" "text" "LPackThreads$Text;").before _ s = true := S.2.2.2.2 _ (List.mem_of_getElem? (i := 2) rfl)
  have hf35 : (Cond.fieldLink RX9 35 "PackThreads" "packs" "LPackThreads$Packs;").before _ s = true := S.2.2.2.2 _ (List.mem_of_getElem? (i := 3) rfl)
  have hS : va_S A s.heap s.heap [] := va_S.rf
  have hl := lv_entry ([.ref (ad 0), .int a1]) (n := 2) (Nat.le_of_ble_eq_true rfl)
  rw [lg_entry_eq]
  generalize (lg_sl ([.ref (ad 0), .int a1]) ++ List.replicate (2 - (lg_sl ([.ref (ad 0), .int a1])).length) Slot.unset).toArray = ls at hl ⊢
  have hl : lv_has ls 2 [(0, .ref (ad 0)), (1, .int a1)] := hl
  unfold f_X9_type at h
  refine lv_iload_n hx hb dX9_type_0 rfl (lv_at hl 1 rfl) ?_
  refine lv_if_lt (tgt := 11) hx hb dX9_type_1 (by decide) (fun c1 => ?_) (fun c1 => ?_)
  · replace h := pt_ip c1 h
    refine lv_bipush (v := -2) hx hb dX9_type_11 (by decide) ?_
    exact pt_iret S hr hlk hP hS (pt_pr h).1 (congrArg (wC ca ad) (pt_pr h).2) dX9_type_13
  · replace h := pt_iN c1 h
    refine lv_iload_n hx hb dX9_type_4 rfl (lv_at hl 1 rfl) ?_
    refine lv_sipush (v := 255) hx hb dX9_type_5 (by decide) ?_
    refine lv_icmp_le (tgt := 14) hx hb dX9_type_8 (by decide) (fun c2 => ?_) (fun c2 => ?_)
    · replace h := pt_ip c2 h
      refine lv_aload_n hx hb dX9_type_14 rfl (lv_at hl 0 rfl) ?_
      refine gf_X9_5 S hiX9 hK hP hf48 dX9_type_15 ?_
      refine lv_if_eq (tgt := 24) hx hb dX9_type_18 (by decide) (fun c3 => ?_) (fun c3 => ?_)
      · replace h := pt_ip c3 h
        refine lv_aload_n hx hb dX9_type_24 rfl (lv_at hl 0 rfl) ?_
        refine gf_X9_0 S hiX9 hK hP hf12 dX9_type_25 ?_
        replace h := pt_b2s h; obtain ⟨r4, σ4, e4, h⟩ := h
        refine pt_cVi (As := []) (rest := []) S (m_X7_isFull l hDa e4) (cwV 0 S.2.2.2.2 gX9_type_X7_isFull rfl rfl rfl (by decide +kernel) ⟨Nat.le_of_ble_eq_true rfl, Nat.le_of_ble_eq_true rfl⟩) hK hP hS hZ 1 7 rfl rfl rfl hl.1 rfl (Nat.le_of_ble_eq_true rfl) dX9_type_28 ⟨Nat.zero_le _, Nat.zero_le _⟩ (fun H locs hP hS => ?_)
        refine lv_if_eq (tgt := 37) hx hb dX9_type_31 (by decide) (fun c5 => ?_) (fun c5 => ?_)
        · replace h := pt_ip c5 h
          refine lv_aload_n hx hb dX9_type_37 rfl (lv_at hl 0 rfl) ?_
          refine gf_X9_0 S hiX9 hK hP hf12 dX9_type_38 ?_
          refine lv_iload_n hx hb dX9_type_41 rfl (lv_at hl 1 rfl) ?_
          replace h := pt_b1s h; obtain ⟨σ6, e6, h⟩ := h
          refine pt_cVv (As := [.int a1]) (rest := []) S (m_X7_add l hDa e6) (cwV 1 S.2.2.2.2 gX9_type_X7_add rfl rfl rfl (by decide +kernel) ⟨Nat.le_of_ble_eq_true rfl, Nat.le_of_ble_eq_true rfl⟩) hK hP hS hZ 1 7 rfl rfl rfl hl.1 rfl (Nat.le_of_ble_eq_true rfl) dX9_type_42 ⟨Nat.zero_le _, Nat.zero_le _⟩ (fun H locs hP hS => ?_)
          refine lv_aload_n hx hb dX9_type_45 rfl (lv_at hl 0 rfl) ?_
          refine gf_X9_3 S hiX9 hK hP hf35 dX9_type_46 ?_
          replace h := pt_b1s h; obtain ⟨σ7, e7, h⟩ := h
          refine pt_cVv (As := []) (rest := []) S (m_X2_forget l hDa e7) (cwV 0 S.2.2.2.2 gX9_type_X2_forget rfl rfl rfl (by decide +kernel) ⟨Nat.le_of_ble_eq_true rfl, Nat.le_of_ble_eq_true rfl⟩) hK hP hS hZ 4 2 rfl rfl rfl hl.1 rfl (Nat.le_of_ble_eq_true rfl) dX9_type_49 ⟨Nat.zero_le _, Nat.zero_le _⟩ (fun H locs hP hS => ?_)
          refine lv_aload_n hx hb dX9_type_52 rfl (lv_at hl 0 rfl) ?_
          refine gf_X9_0 S hiX9 hK hP hf12 dX9_type_53 ?_
          replace h := pt_b2s h; obtain ⟨r8, σ8, e8, h⟩ := h
          refine pt_cVi (As := []) (rest := []) S (m_X7_length l hDa e8) (cwV 0 S.2.2.2.2 gX9_type_X7_length rfl rfl rfl (by decide +kernel) ⟨Nat.le_of_ble_eq_true rfl, Nat.le_of_ble_eq_true rfl⟩) hK hP hS hZ 1 7 rfl rfl rfl hl.1 rfl (Nat.le_of_ble_eq_true rfl) dX9_type_56 ⟨Nat.zero_le _, Nat.zero_le _⟩ (fun H locs hP hS => ?_)
          exact pt_iret S hr hlk hP hS (pt_pr h).1 (congrArg (wC ca ad) (pt_pr h).2) dX9_type_59
        · replace h := pt_iN c5 h
          refine lv_bipush (v := -4) hx hb dX9_type_34 (by decide) ?_
          exact pt_iret S hr hlk hP hS (pt_pr h).1 (congrArg (wC ca ad) (pt_pr h).2) dX9_type_36
      · replace h := pt_iN c3 h
        refine lv_bipush (v := -3) hx hb dX9_type_21 (by decide) ?_
        exact pt_iret S hr hlk hP hS (pt_pr h).1 (congrArg (wC ca ad) (pt_pr h).2) dX9_type_23
    · replace h := pt_iN c2 h
      refine lv_bipush (v := -2) hx hb dX9_type_11 (by decide) ?_
      exact pt_iret S hr hlk hP hS (pt_pr h).1 (congrArg (wC ca ad) (pt_pr h).2) dX9_type_13

def f_X9_set (σ : pt_St) (a1 : Int32) (a2 : Int32) : Option (Int32 × pt_St) :=
  pt_b2 (f_X5_allows σ a1 a2) fun r1 σ1 =>
  if r1 = (0 : Int32) then
  some ((-2 : Int32), σ1)
  else
  if (σ1 0 5) = (0 : Int32) then
  pt_b1 (f_X2_forget σ1) fun σ4 =>
  pt_b2 (f_X5_replace σ4 a1 a2) fun r5 σ5 =>
  some (r5, σ5)
  else
  some ((-3 : Int32), σ1)
set_option maxHeartbeats 4000000 in
set_option maxRecDepth 100000 in
theorem m_X9_set (l : Launch) {D : va_G} {A : Nat → Prop} {ca : Nat → ClassId} {ad : Nat → Nat} {z : Nat × Nat} (hDa : ∀ σ, va_D A (wC ca ad σ)) {σ σ' : pt_St} {r : Int32} {a1 : Int32} {a2 : Int32} (h : f_X9_set σ a1 a2 = some (r, σ')) : Met l yX9_set wsX9_set { frames := 1, cells := 0, slots := 0, locals := 23 } (va_Pc [.ref (ad 0), .int a1, .int a2] (pt_Pre D (tysC ca) z A (wC ca ad σ))) (pt_Q (some (.int r)) D (wC ca ad σ') A) 0 0 A := by
  refine Met.ofW (cc := cX9_set) (maxL := 3) (ret := (some .int)) (by decide) rfl ?_
  intro p e s m args below meth c s₁ B hml hv
  obtain ⟨rfl, hP, hK, hZ⟩ := hv
  have S : CallFix p m c cX9_set 3 s ([.ref (ad 0), .int a1, .int a2] : List Value).toArray wsX9_set RX9 := ⟨B.exec, B.bytes, hml, findClass_of_methodNamed B.named, atoms_spec (ws := wsX9_set) B.pre⟩
  have hx := S.1
  have hb := S.2.1
  have hr := B.returns
  have hlk := B.notSynchronized
  clear B
  have hiX9 : ∀ w ∈ wsX90, w ∈ wsX9_set := fun w h => List.mem_cons_of_mem _ (List.mem_append_left _ (List.mem_append_left _ (List.mem_append_right _ h)))
  have hiX2 : ∀ w ∈ wsX20, w ∈ wsX9_set := fun w h => List.mem_cons_of_mem _ (List.mem_append_left _ (List.mem_append_right _ h))
  have hiX5 : ∀ w ∈ wsX50, w ∈ wsX9_set := fun w h => List.mem_cons_of_mem _ (List.mem_append_right _ h)
  have hf19 : (Cond.fieldLink RX9 19 "PackThreads" "settings" "LPackThreads$Settings;").before _ s = true := S.2.2.2.2 _ (List.mem_of_getElem? (i := 1) rfl)
  have hf48 : (Cond.fieldLink RX9 48 "PackThreads" "begun" "Z").before _ s = true := S.2.2.2.2 _ (List.mem_of_getElem? (i := 2) rfl)
  have hf35 : (Cond.fieldLink RX9 35 "PackThreads" "packs" "LPackThreads$Packs;").before _ s = true := S.2.2.2.2 _ (List.mem_of_getElem? (i := 3) rfl)
  have hS : va_S A s.heap s.heap [] := va_S.rf
  have hl := lv_entry ([.ref (ad 0), .int a1, .int a2]) (n := 3) (Nat.le_of_ble_eq_true rfl)
  rw [lg_entry_eq]
  generalize (lg_sl ([.ref (ad 0), .int a1, .int a2]) ++ List.replicate (3 - (lg_sl ([.ref (ad 0), .int a1, .int a2])).length) Slot.unset).toArray = ls at hl ⊢
  have hl : lv_has ls 3 [(0, .ref (ad 0)), (1, .int a1), (2, .int a2)] := hl
  unfold f_X9_set at h
  refine lv_aload_n hx hb dX9_set_0 rfl (lv_at hl 0 rfl) ?_
  refine gf_X9_1 S hiX9 hK hP hf19 dX9_set_1 ?_
  refine lv_iload_n hx hb dX9_set_4 rfl (lv_at hl 1 rfl) ?_
  refine lv_iload_n hx hb dX9_set_5 rfl (lv_at hl 2 rfl) ?_
  replace h := pt_b2s h; obtain ⟨r1, σ1, e1, h⟩ := h
  refine pt_cVi (As := [.int a1, .int a2]) (rest := []) S (m_X5_allows l hDa e1) (cwV 2 S.2.2.2.2 gX9_set_X5_allows rfl rfl rfl (by decide +kernel) ⟨Nat.le_of_ble_eq_true rfl, Nat.le_of_ble_eq_true rfl⟩) hK hP hS hZ 2 5 rfl rfl rfl hl.1 rfl (Nat.le_of_ble_eq_true rfl) dX9_set_6 ⟨Nat.zero_le _, Nat.zero_le _⟩ (fun H locs hP hS => ?_)
  refine lv_if_ne (tgt := 15) hx hb dX9_set_9 (by decide) (fun c2 => ?_) (fun c2 => ?_)
  · replace h := pt_iN c2 h
    refine lv_aload_n hx hb dX9_set_15 rfl (lv_at hl 0 rfl) ?_
    refine gf_X9_5 S hiX9 hK hP hf48 dX9_set_16 ?_
    refine lv_if_eq (tgt := 25) hx hb dX9_set_19 (by decide) (fun c3 => ?_) (fun c3 => ?_)
    · replace h := pt_ip c3 h
      refine lv_aload_n hx hb dX9_set_25 rfl (lv_at hl 0 rfl) ?_
      refine gf_X9_3 S hiX9 hK hP hf35 dX9_set_26 ?_
      replace h := pt_b1s h; obtain ⟨σ4, e4, h⟩ := h
      refine pt_cVv (As := []) (rest := []) S (m_X2_forget l hDa e4) (cwV 0 S.2.2.2.2 gX9_set_X2_forget rfl rfl rfl (by decide +kernel) ⟨Nat.le_of_ble_eq_true rfl, Nat.le_of_ble_eq_true rfl⟩) hK hP hS hZ 4 2 rfl rfl rfl hl.1 rfl (Nat.le_of_ble_eq_true rfl) dX9_set_29 ⟨Nat.zero_le _, Nat.zero_le _⟩ (fun H locs hP hS => ?_)
      refine lv_aload_n hx hb dX9_set_32 rfl (lv_at hl 0 rfl) ?_
      refine gf_X9_1 S hiX9 hK hP hf19 dX9_set_33 ?_
      refine lv_iload_n hx hb dX9_set_36 rfl (lv_at hl 1 rfl) ?_
      refine lv_iload_n hx hb dX9_set_37 rfl (lv_at hl 2 rfl) ?_
      replace h := pt_b2s h; obtain ⟨r5, σ5, e5, h⟩ := h
      refine pt_cVi (As := [.int a1, .int a2]) (rest := []) S (m_X5_replace l hDa e5) (cwV 2 S.2.2.2.2 gX9_set_X5_replace rfl rfl rfl (by decide +kernel) ⟨Nat.le_of_ble_eq_true rfl, Nat.le_of_ble_eq_true rfl⟩) hK hP hS hZ 2 5 rfl rfl rfl hl.1 rfl (Nat.le_of_ble_eq_true rfl) dX9_set_38 ⟨Nat.zero_le _, Nat.zero_le _⟩ (fun H locs hP hS => ?_)
      exact pt_iret S hr hlk hP hS (pt_pr h).1 (congrArg (wC ca ad) (pt_pr h).2) dX9_set_41
    · replace h := pt_iN c3 h
      refine lv_bipush (v := -3) hx hb dX9_set_22 (by decide) ?_
      exact pt_iret S hr hlk hP hS (pt_pr h).1 (congrArg (wC ca ad) (pt_pr h).2) dX9_set_24
  · replace h := pt_ip c2 h
    refine lv_bipush (v := -2) hx hb dX9_set_12 (by decide) ?_
    exact pt_iret S hr hlk hP hS (pt_pr h).1 (congrArg (wC ca ad) (pt_pr h).2) dX9_set_14

def f_X9_plant (σ : pt_St) (a1 : Int32) (a2 : Int32) (a3 : Int32) (a4 : Int32) : Option (Int32 × pt_St) :=
  if a1 < (0 : Int32) then
  some ((-2 : Int32), σ)
  else
  if (40 : Int32) ≤ a1 then
  some ((-2 : Int32), σ)
  else
  if a2 < (0 : Int32) then
  some ((-2 : Int32), σ)
  else
  if (32 : Int32) ≤ a2 then
  some ((-2 : Int32), σ)
  else
  if a3 < (1 : Int32) then
  some ((-2 : Int32), σ)
  else
  if a3 ≤ (6 : Int32) then
  if (σ 0 5) = (0 : Int32) then
  pt_b1 (f_X3_put σ a1 a2 a3 a4) fun σ8 =>
  some ((1 : Int32), σ8)
  else
  some ((-3 : Int32), σ)
  else
  some ((-2 : Int32), σ)
set_option maxHeartbeats 4000000 in
set_option maxRecDepth 100000 in
theorem m_X9_plant (l : Launch) {D : va_G} {A : Nat → Prop} {ca : Nat → ClassId} {ad : Nat → Nat} {z : Nat × Nat} (hDa : ∀ σ, va_D A (wC ca ad σ)) {σ σ' : pt_St} {r : Int32} {a1 : Int32} {a2 : Int32} {a3 : Int32} {a4 : Int32} (h : f_X9_plant σ a1 a2 a3 a4 = some (r, σ')) : Met l yX9_plant wsX9_plant { frames := 1, cells := 0, slots := 0, locals := 24 } (va_Pc [.ref (ad 0), .int a1, .int a2, .int a3, .int a4] (pt_Pre D (tysC ca) z A (wC ca ad σ))) (pt_Q (some (.int r)) D (wC ca ad σ') A) 0 0 A := by
  refine Met.ofW (cc := cX9_plant) (maxL := 5) (ret := (some .int)) (by decide) rfl ?_
  intro p e s m args below meth c s₁ B hml hv
  obtain ⟨rfl, hP, hK, hZ⟩ := hv
  have S : CallFix p m c cX9_plant 5 s ([.ref (ad 0), .int a1, .int a2, .int a3, .int a4] : List Value).toArray wsX9_plant RX9 := ⟨B.exec, B.bytes, hml, findClass_of_methodNamed B.named, atoms_spec (ws := wsX9_plant) B.pre⟩
  have hx := S.1
  have hb := S.2.1
  have hr := B.returns
  have hlk := B.notSynchronized
  clear B
  have hiX9 : ∀ w ∈ wsX90, w ∈ wsX9_plant := fun w h => List.mem_cons_of_mem _ (List.mem_append_left _ (List.mem_append_right _ h))
  have hiX3 : ∀ w ∈ wsX30, w ∈ wsX9_plant := fun w h => List.mem_cons_of_mem _ (List.mem_append_right _ h)
  have hf48 : (Cond.fieldLink RX9 48 "PackThreads" "begun" "Z").before _ s = true := S.2.2.2.2 _ (List.mem_of_getElem? (i := 1) rfl)
  have hf26 : (Cond.fieldLink RX9 26 "PackThreads" "plants" "LPackThreads$Plants;").before _ s = true := S.2.2.2.2 _ (List.mem_of_getElem? (i := 2) rfl)
  have hS : va_S A s.heap s.heap [] := va_S.rf
  have hl := lv_entry ([.ref (ad 0), .int a1, .int a2, .int a3, .int a4]) (n := 5) (Nat.le_of_ble_eq_true rfl)
  rw [lg_entry_eq]
  generalize (lg_sl ([.ref (ad 0), .int a1, .int a2, .int a3, .int a4]) ++ List.replicate (5 - (lg_sl ([.ref (ad 0), .int a1, .int a2, .int a3, .int a4])).length) Slot.unset).toArray = ls at hl ⊢
  have hl : lv_has ls 5 [(0, .ref (ad 0)), (1, .int a1), (2, .int a2), (3, .int a3), (4, .int a4)] := hl
  unfold f_X9_plant at h
  refine lv_iload_n hx hb dX9_plant_0 rfl (lv_at hl 1 rfl) ?_
  refine lv_if_lt (tgt := 31) hx hb dX9_plant_1 (by decide) (fun c1 => ?_) (fun c1 => ?_)
  · replace h := pt_ip c1 h
    refine lv_bipush (v := -2) hx hb dX9_plant_31 (by decide) ?_
    exact pt_iret S hr hlk hP hS (pt_pr h).1 (congrArg (wC ca ad) (pt_pr h).2) dX9_plant_33
  · replace h := pt_iN c1 h
    refine lv_iload_n hx hb dX9_plant_4 rfl (lv_at hl 1 rfl) ?_
    refine lv_bipush (v := 40) hx hb dX9_plant_5 (by decide) ?_
    refine lv_icmp_ge (tgt := 31) hx hb dX9_plant_7 (by decide) (fun c2 => ?_) (fun c2 => ?_)
    · replace h := pt_ip c2 h
      refine lv_bipush (v := -2) hx hb dX9_plant_31 (by decide) ?_
      exact pt_iret S hr hlk hP hS (pt_pr h).1 (congrArg (wC ca ad) (pt_pr h).2) dX9_plant_33
    · replace h := pt_iN c2 h
      refine lv_iload_n hx hb dX9_plant_10 rfl (lv_at hl 2 rfl) ?_
      refine lv_if_lt (tgt := 31) hx hb dX9_plant_11 (by decide) (fun c3 => ?_) (fun c3 => ?_)
      · replace h := pt_ip c3 h
        refine lv_bipush (v := -2) hx hb dX9_plant_31 (by decide) ?_
        exact pt_iret S hr hlk hP hS (pt_pr h).1 (congrArg (wC ca ad) (pt_pr h).2) dX9_plant_33
      · replace h := pt_iN c3 h
        refine lv_iload_n hx hb dX9_plant_14 rfl (lv_at hl 2 rfl) ?_
        refine lv_bipush (v := 32) hx hb dX9_plant_15 (by decide) ?_
        refine lv_icmp_ge (tgt := 31) hx hb dX9_plant_17 (by decide) (fun c4 => ?_) (fun c4 => ?_)
        · replace h := pt_ip c4 h
          refine lv_bipush (v := -2) hx hb dX9_plant_31 (by decide) ?_
          exact pt_iret S hr hlk hP hS (pt_pr h).1 (congrArg (wC ca ad) (pt_pr h).2) dX9_plant_33
        · replace h := pt_iN c4 h
          refine lv_iload_n hx hb dX9_plant_20 rfl (lv_at hl 3 rfl) ?_
          refine lv_iconst (v := 1) hx hb dX9_plant_21 (by decide) ?_
          refine lv_icmp_lt (tgt := 31) hx hb dX9_plant_22 (by decide) (fun c5 => ?_) (fun c5 => ?_)
          · replace h := pt_ip c5 h
            refine lv_bipush (v := -2) hx hb dX9_plant_31 (by decide) ?_
            exact pt_iret S hr hlk hP hS (pt_pr h).1 (congrArg (wC ca ad) (pt_pr h).2) dX9_plant_33
          · replace h := pt_iN c5 h
            refine lv_iload_n hx hb dX9_plant_25 rfl (lv_at hl 3 rfl) ?_
            refine lv_bipush (v := 6) hx hb dX9_plant_26 (by decide) ?_
            refine lv_icmp_le (tgt := 34) hx hb dX9_plant_28 (by decide) (fun c6 => ?_) (fun c6 => ?_)
            · replace h := pt_ip c6 h
              refine lv_aload_n hx hb dX9_plant_34 rfl (lv_at hl 0 rfl) ?_
              refine gf_X9_5 S hiX9 hK hP hf48 dX9_plant_35 ?_
              refine lv_if_eq (tgt := 44) hx hb dX9_plant_38 (by decide) (fun c7 => ?_) (fun c7 => ?_)
              · replace h := pt_ip c7 h
                refine lv_aload_n hx hb dX9_plant_44 rfl (lv_at hl 0 rfl) ?_
                refine gf_X9_2 S hiX9 hK hP hf26 dX9_plant_45 ?_
                refine lv_iload_n hx hb dX9_plant_48 rfl (lv_at hl 1 rfl) ?_
                refine lv_iload_n hx hb dX9_plant_49 rfl (lv_at hl 2 rfl) ?_
                refine lv_iload_n hx hb dX9_plant_50 rfl (lv_at hl 3 rfl) ?_
                refine lv_iload hx hb dX9_plant_51 (lv_at hl 4 rfl) ?_
                replace h := pt_b1s h; obtain ⟨σ8, e8, h⟩ := h
                refine pt_cVv (As := [.int a1, .int a2, .int a3, .int a4]) (rest := []) S (m_X3_put l hDa e8) (cwV 4 S.2.2.2.2 gX9_plant_X3_put rfl rfl rfl (by decide +kernel) ⟨Nat.le_of_ble_eq_true rfl, Nat.le_of_ble_eq_true rfl⟩) hK hP hS hZ 3 3 rfl rfl rfl hl.1 rfl (Nat.le_of_ble_eq_true rfl) dX9_plant_53 ⟨Nat.zero_le _, Nat.zero_le _⟩ (fun H locs hP hS => ?_)
                refine lv_iconst (v := 1) hx hb dX9_plant_56 (by decide) ?_
                exact pt_iret S hr hlk hP hS (pt_pr h).1 (congrArg (wC ca ad) (pt_pr h).2) dX9_plant_57
              · replace h := pt_iN c7 h
                refine lv_bipush (v := -3) hx hb dX9_plant_41 (by decide) ?_
                exact pt_iret S hr hlk hP hS (pt_pr h).1 (congrArg (wC ca ad) (pt_pr h).2) dX9_plant_43
            · replace h := pt_iN c6 h
              refine lv_bipush (v := -2) hx hb dX9_plant_31 (by decide) ?_
              exact pt_iret S hr hlk hP hS (pt_pr h).1 (congrArg (wC ca ad) (pt_pr h).2) dX9_plant_33

def f_X9_begin (σ : pt_St) (a1 : Int32) : Option (Int32 × pt_St) :=
  if a1 < (1 : Int32) then
  some ((-2 : Int32), σ)
  else
  if a1 ≤ (6 : Int32) then
  if (σ 0 5) = (0 : Int32) then
  pt_b1 (f_X2_make σ) fun σ4 =>
  pt_b2 (f_X5_cells σ4) fun r5 σ5 =>
  pt_b2 (f_X5_rowLimit σ5) fun r6 σ6 =>
  pt_b1 (f_X6_start σ6 a1 r5 r6) fun σ7 =>
  pt_do (pt_put σ7 0 5 (1 : Int32)) fun σ8 =>
  pt_b2 (f_X2_blocks σ8) fun r9 σ9 =>
  some (r9, σ9)
  else
  some ((-3 : Int32), σ)
  else
  some ((-2 : Int32), σ)
set_option maxHeartbeats 4000000 in
set_option maxRecDepth 100000 in
theorem m_X9_begin (l : Launch) {D : va_G} {A : Nat → Prop} {ca : Nat → ClassId} {ad : Nat → Nat} {z : Nat × Nat} (hDa : ∀ σ, va_D A (wC ca ad σ)) {σ σ' : pt_St} {r : Int32} {a1 : Int32} (h : f_X9_begin σ a1 = some (r, σ')) : Met l yX9_begin wsX9_begin { frames := 5, cells := 0, slots := 0, locals := 120 } (va_Pc [.ref (ad 0), .int a1] (pt_Pre D (tysC ca) z A (wC ca ad σ))) (pt_Q (some (.int r)) D (wC ca ad σ') A) 0 0 A := by
  refine Met.ofW (cc := cX9_begin) (maxL := 2) (ret := (some .int)) (by decide) rfl ?_
  intro p e s m args below meth c s₁ B hml hv
  obtain ⟨rfl, hP, hK, hZ⟩ := hv
  have S : CallFix p m c cX9_begin 2 s ([.ref (ad 0), .int a1] : List Value).toArray wsX9_begin RX9 := ⟨B.exec, B.bytes, hml, findClass_of_methodNamed B.named, atoms_spec (ws := wsX9_begin) B.pre⟩
  have hx := S.1
  have hb := S.2.1
  have hr := B.returns
  have hlk := B.notSynchronized
  clear B
  have hiX9 : ∀ w ∈ wsX90, w ∈ wsX9_begin := fun w h => List.mem_cons_of_mem _ (List.mem_append_left _ (List.mem_append_left _ (List.mem_append_left _ (List.mem_append_left _ (List.mem_append_left _ (List.mem_append_left _ (List.mem_append_left _ (List.mem_append_left _ (List.mem_append_right _ h)))))))))
  have hiX2 : ∀ w ∈ wsX20, w ∈ wsX9_begin := fun w h => List.mem_cons_of_mem _ (List.mem_append_left _ (List.mem_append_left _ (List.mem_append_left _ (List.mem_append_left _ (List.mem_append_left _ (List.mem_append_left _ (List.mem_append_left _ (List.mem_append_right _ h))))))))
  have hiX5 : ∀ w ∈ wsX50, w ∈ wsX9_begin := fun w h => List.mem_cons_of_mem _ (List.mem_append_left _ (List.mem_append_left _ (List.mem_append_left _ (List.mem_append_left _ (List.mem_append_left _ (List.mem_append_left _ (List.mem_append_right _ h)))))))
  have hiX7 : ∀ w ∈ wsX70, w ∈ wsX9_begin := fun w h => List.mem_cons_of_mem _ (List.mem_append_left _ (List.mem_append_left _ (List.mem_append_left _ (List.mem_append_left _ (List.mem_append_left _ (List.mem_append_right _ h))))))
  have hiX6 : ∀ w ∈ wsX60, w ∈ wsX9_begin := fun w h => List.mem_cons_of_mem _ (List.mem_append_left _ (List.mem_append_left _ (List.mem_append_left _ (List.mem_append_left _ (List.mem_append_right _ h)))))
  have hiX8 : ∀ w ∈ wsX80, w ∈ wsX9_begin := fun w h => List.mem_cons_of_mem _ (List.mem_append_left _ (List.mem_append_left _ (List.mem_append_left _ (List.mem_append_right _ h))))
  have hiX1 : ∀ w ∈ wsX10, w ∈ wsX9_begin := fun w h => List.mem_cons_of_mem _ (List.mem_append_left _ (List.mem_append_left _ (List.mem_append_right _ h)))
  have hiX4 : ∀ w ∈ wsX40, w ∈ wsX9_begin := fun w h => List.mem_cons_of_mem _ (List.mem_append_left _ (List.mem_append_right _ h))
  have hiX0 : ∀ w ∈ wsX00, w ∈ wsX9_begin := fun w h => List.mem_cons_of_mem _ (List.mem_append_right _ h)
  have hf48 : (Cond.fieldLink RX9 48 "PackThreads" "begun" "Z").before _ s = true := S.2.2.2.2 _ (List.mem_of_getElem? (i := 1) rfl)
  have hf35 : (Cond.fieldLink RX9 35 "PackThreads" "packs" "LPackThreads$Packs;").before _ s = true := S.2.2.2.2 _ (List.mem_of_getElem? (i := 2) rfl)
  have hf44 : (Cond.fieldLink RX9 44 "PackThreads" "stream" "LPackThreads$Stream;").before _ s = true := S.2.2.2.2 _ (List.mem_of_getElem? (i := 3) rfl)
  have hf19 : (Cond.fieldLink RX9 19 "PackThreads" "settings" "LPackThreads$Settings;").before _ s = true := S.2.2.2.2 _ (List.mem_of_getElem? (i := 4) rfl)
  have hS : va_S A s.heap s.heap [] := va_S.rf
  have hl := lv_entry ([.ref (ad 0), .int a1]) (n := 2) (Nat.le_of_ble_eq_true rfl)
  rw [lg_entry_eq]
  generalize (lg_sl ([.ref (ad 0), .int a1]) ++ List.replicate (2 - (lg_sl ([.ref (ad 0), .int a1])).length) Slot.unset).toArray = ls at hl ⊢
  have hl : lv_has ls 2 [(0, .ref (ad 0)), (1, .int a1)] := hl
  unfold f_X9_begin at h
  refine lv_iload_n hx hb dX9_begin_0 rfl (lv_at hl 1 rfl) ?_
  refine lv_iconst (v := 1) hx hb dX9_begin_1 (by decide) ?_
  refine lv_icmp_lt (tgt := 11) hx hb dX9_begin_2 (by decide) (fun c1 => ?_) (fun c1 => ?_)
  · replace h := pt_ip c1 h
    refine lv_bipush (v := -2) hx hb dX9_begin_11 (by decide) ?_
    exact pt_iret S hr hlk hP hS (pt_pr h).1 (congrArg (wC ca ad) (pt_pr h).2) dX9_begin_13
  · replace h := pt_iN c1 h
    refine lv_iload_n hx hb dX9_begin_5 rfl (lv_at hl 1 rfl) ?_
    refine lv_bipush (v := 6) hx hb dX9_begin_6 (by decide) ?_
    refine lv_icmp_le (tgt := 14) hx hb dX9_begin_8 (by decide) (fun c2 => ?_) (fun c2 => ?_)
    · replace h := pt_ip c2 h
      refine lv_aload_n hx hb dX9_begin_14 rfl (lv_at hl 0 rfl) ?_
      refine gf_X9_5 S hiX9 hK hP hf48 dX9_begin_15 ?_
      refine lv_if_eq (tgt := 24) hx hb dX9_begin_18 (by decide) (fun c3 => ?_) (fun c3 => ?_)
      · replace h := pt_ip c3 h
        refine lv_aload_n hx hb dX9_begin_24 rfl (lv_at hl 0 rfl) ?_
        refine gf_X9_3 S hiX9 hK hP hf35 dX9_begin_25 ?_
        replace h := pt_b1s h; obtain ⟨σ4, e4, h⟩ := h
        refine pt_cVv (As := []) (rest := []) S (m_X2_make l hDa e4) (cwV 0 S.2.2.2.2 gX9_begin_X2_make rfl rfl rfl (by decide +kernel) ⟨Nat.le_of_ble_eq_true rfl, Nat.le_of_ble_eq_true rfl⟩) hK hP hS hZ 4 2 rfl rfl rfl hl.1 rfl (Nat.le_of_ble_eq_true rfl) dX9_begin_28 ⟨Nat.zero_le _, Nat.zero_le _⟩ (fun H locs hP hS => ?_)
        refine lv_aload_n hx hb dX9_begin_31 rfl (lv_at hl 0 rfl) ?_
        refine gf_X9_4 S hiX9 hK hP hf44 dX9_begin_32 ?_
        refine lv_iload_n hx hb dX9_begin_35 rfl (lv_at hl 1 rfl) ?_
        refine lv_aload_n hx hb dX9_begin_36 rfl (lv_at hl 0 rfl) ?_
        refine gf_X9_1 S hiX9 hK hP hf19 dX9_begin_37 ?_
        replace h := pt_b2s h; obtain ⟨r5, σ5, e5, h⟩ := h
        refine pt_cVi (As := []) (rest := [.int a1, .ref (ad 5)]) S (m_X5_cells l hDa e5) (cwV 0 S.2.2.2.2 gX9_begin_X5_cells rfl rfl rfl (by decide +kernel) ⟨Nat.le_of_ble_eq_true rfl, Nat.le_of_ble_eq_true rfl⟩) hK hP hS hZ 2 5 rfl rfl rfl hl.1 rfl (Nat.le_of_ble_eq_true rfl) dX9_begin_40 ⟨Nat.zero_le _, Nat.zero_le _⟩ (fun H locs hP hS => ?_)
        refine lv_aload_n hx hb dX9_begin_43 rfl (lv_at hl 0 rfl) ?_
        refine gf_X9_1 S hiX9 hK hP hf19 dX9_begin_44 ?_
        replace h := pt_b2s h; obtain ⟨r6, σ6, e6, h⟩ := h
        refine pt_cVi (As := []) (rest := [.int r5, .int a1, .ref (ad 5)]) S (m_X5_rowLimit l hDa e6) (cwV 0 S.2.2.2.2 gX9_begin_X5_rowLimit rfl rfl rfl (by decide +kernel) ⟨Nat.le_of_ble_eq_true rfl, Nat.le_of_ble_eq_true rfl⟩) hK hP hS hZ 2 5 rfl rfl rfl hl.1 rfl (Nat.le_of_ble_eq_true rfl) dX9_begin_47 ⟨Nat.zero_le _, Nat.zero_le _⟩ (fun H locs hP hS => ?_)
        replace h := pt_b1s h; obtain ⟨σ7, e7, h⟩ := h
        refine pt_cVv (As := [.int a1, .int r5, .int r6]) (rest := []) S (m_X6_start l hDa e7) (cwV 3 S.2.2.2.2 gX9_begin_X6_start rfl rfl rfl (by decide +kernel) ⟨Nat.le_of_ble_eq_true rfl, Nat.le_of_ble_eq_true rfl⟩) hK hP hS hZ 5 6 rfl rfl rfl hl.1 rfl (Nat.le_of_ble_eq_true rfl) dX9_begin_50 ⟨Nat.zero_le _, Nat.zero_le _⟩ (fun H locs hP hS => ?_)
        refine lv_aload_n hx hb dX9_begin_53 rfl (lv_at hl 0 rfl) ?_
        refine lv_iconst (v := 1) hx hb dX9_begin_54 (by decide) ?_
        replace h := pt_dos h; obtain ⟨σ8, e8, h⟩ := h
        refine pf_X9_5 S hiX9 hK hP hDa hS hf48 (Or.inr rfl) e8 dX9_begin_55 (fun H locs hP hS => ?_)
        refine lv_aload_n hx hb dX9_begin_58 rfl (lv_at hl 0 rfl) ?_
        refine gf_X9_3 S hiX9 hK hP hf35 dX9_begin_59 ?_
        replace h := pt_b2s h; obtain ⟨r9, σ9, e9, h⟩ := h
        refine pt_cVi (As := []) (rest := []) S (m_X2_blocks l hDa e9) (cwV 0 S.2.2.2.2 gX9_begin_X2_blocks rfl rfl rfl (by decide +kernel) ⟨Nat.le_of_ble_eq_true rfl, Nat.le_of_ble_eq_true rfl⟩) hK hP hS hZ 4 2 rfl rfl rfl hl.1 rfl (Nat.le_of_ble_eq_true rfl) dX9_begin_62 ⟨Nat.zero_le _, Nat.zero_le _⟩ (fun H locs hP hS => ?_)
        exact pt_iret S hr hlk hP hS (pt_pr h).1 (congrArg (wC ca ad) (pt_pr h).2) dX9_begin_65
      · replace h := pt_iN c3 h
        refine lv_bipush (v := -3) hx hb dX9_begin_21 (by decide) ?_
        exact pt_iret S hr hlk hP hS (pt_pr h).1 (congrArg (wC ca ad) (pt_pr h).2) dX9_begin_23
    · replace h := pt_iN c2 h
      refine lv_bipush (v := -2) hx hb dX9_begin_11 (by decide) ?_
      exact pt_iret S hr hlk hP hS (pt_pr h).1 (congrArg (wC ca ad) (pt_pr h).2) dX9_begin_13

def f_X9_isThread (σ : pt_St) (a1 : Int32) : Option (Int32 × pt_St) :=
  if (σ 0 5) = (0 : Int32) then
  if a1 < (0 : Int32) then
  some ((0 : Int32), σ)
  else
  if (6 : Int32) ≤ a1 then
  some ((0 : Int32), σ)
  else
  some ((1 : Int32), σ)
  else
  pt_b2 (f_X6_threads σ) fun r4 σ4 =>
  if a1 < (0 : Int32) then
  some ((0 : Int32), σ4)
  else
  if r4 ≤ a1 then
  some ((0 : Int32), σ4)
  else
  some ((1 : Int32), σ4)
set_option maxHeartbeats 4000000 in
set_option maxRecDepth 100000 in
theorem m_X9_isThread (l : Launch) {D : va_G} {A : Nat → Prop} {ca : Nat → ClassId} {ad : Nat → Nat} {z : Nat × Nat} (hDa : ∀ σ, va_D A (wC ca ad σ)) {σ σ' : pt_St} {r : Int32} {a1 : Int32} (h : f_X9_isThread σ a1 = some (r, σ')) : Met l yX9_isThread wsX9_isThread { frames := 1, cells := 0, slots := 0, locals := 20 } (va_Pc [.ref (ad 0), .int a1] (pt_Pre D (tysC ca) z A (wC ca ad σ))) (pt_Q (some (.int r)) D (wC ca ad σ') A) 0 0 A := by
  refine Met.ofW (cc := cX9_isThread) (maxL := 3) (ret := (some .boolean)) (by decide) rfl ?_
  intro p e s m args below meth c s₁ B hml hv
  obtain ⟨rfl, hP, hK, hZ⟩ := hv
  have S : CallFix p m c cX9_isThread 3 s ([.ref (ad 0), .int a1] : List Value).toArray wsX9_isThread RX9 := ⟨B.exec, B.bytes, hml, findClass_of_methodNamed B.named, atoms_spec (ws := wsX9_isThread) B.pre⟩
  have hx := S.1
  have hb := S.2.1
  have hr := B.returns
  have hlk := B.notSynchronized
  clear B
  have hiX9 : ∀ w ∈ wsX90, w ∈ wsX9_isThread := fun w h => List.mem_cons_of_mem _ (List.mem_append_left _ (List.mem_append_right _ h))
  have hiX6 : ∀ w ∈ wsX60, w ∈ wsX9_isThread := fun w h => List.mem_cons_of_mem _ (List.mem_append_right _ h)
  have hf48 : (Cond.fieldLink RX9 48 "PackThreads" "begun" "Z").before _ s = true := S.2.2.2.2 _ (List.mem_of_getElem? (i := 1) rfl)
  have hf44 : (Cond.fieldLink RX9 44 "PackThreads" "stream" "LPackThreads$Stream;").before _ s = true := S.2.2.2.2 _ (List.mem_of_getElem? (i := 2) rfl)
  have hS : va_S A s.heap s.heap [] := va_S.rf
  have hl := lv_entry ([.ref (ad 0), .int a1]) (n := 3) (Nat.le_of_ble_eq_true rfl)
  rw [lg_entry_eq]
  generalize (lg_sl ([.ref (ad 0), .int a1]) ++ List.replicate (3 - (lg_sl ([.ref (ad 0), .int a1])).length) Slot.unset).toArray = ls at hl ⊢
  have hl : lv_has ls 3 [(0, .ref (ad 0)), (1, .int a1)] := hl
  unfold f_X9_isThread at h
  refine lv_aload_n hx hb dX9_isThread_0 rfl (lv_at hl 0 rfl) ?_
  refine gf_X9_5 S hiX9 hK hP hf48 dX9_isThread_1 ?_
  refine lv_if_eq (tgt := 17) hx hb dX9_isThread_4 (by decide) (fun c1 => ?_) (fun c1 => ?_)
  · replace h := pt_ip c1 h
    refine lv_bipush (v := 6) hx hb dX9_isThread_17 (by decide) ?_
    refine lv_istore_n (lv' := [(2, .int (6 : Int32)), (0, .ref (ad 0)), (1, .int a1)]) hx hb dX9_isThread_19 rfl hl (by decide) rfl (fun ls hl => ?_)
    refine lv_iload_n hx hb dX9_isThread_20 rfl (lv_at hl 2 rfl) ?_
    refine lv_if_lt (tgt := 33) hx hb dX9_isThread_21 (by decide) (fun c2 => ?_) (fun c2 => ?_)
    · replace h := pt_ip c2 h
      refine lv_iconst (v := 0) hx hb dX9_isThread_33 (by decide) ?_
      exact pt_zret S hr hlk hP hS (Or.inl rfl) (pt_pr h).1 (congrArg (wC ca ad) (pt_pr h).2) dX9_isThread_34
    · replace h := pt_iN c2 h
      refine lv_iload_n hx hb dX9_isThread_24 rfl (lv_at hl 2 rfl) ?_
      refine lv_iload_n hx hb dX9_isThread_25 rfl (lv_at hl 0 rfl) ?_
      refine lv_icmp_ge (tgt := 33) hx hb dX9_isThread_26 (by decide) (fun c3 => ?_) (fun c3 => ?_)
      · replace h := pt_ip c3 h
        refine lv_iconst (v := 0) hx hb dX9_isThread_33 (by decide) ?_
        exact pt_zret S hr hlk hP hS (Or.inl rfl) (pt_pr h).1 (congrArg (wC ca ad) (pt_pr h).2) dX9_isThread_34
      · replace h := pt_iN c3 h
        refine lv_iconst (v := 1) hx hb dX9_isThread_29 (by decide) ?_
        refine lv_goto (tgt := 34) hx hb dX9_isThread_30 (by decide) ?_
        exact pt_zret S hr hlk hP hS (Or.inr rfl) (pt_pr h).1 (congrArg (wC ca ad) (pt_pr h).2) dX9_isThread_34
  · replace h := pt_iN c1 h
    refine lv_aload_n hx hb dX9_isThread_7 rfl (lv_at hl 0 rfl) ?_
    refine gf_X9_4 S hiX9 hK hP hf44 dX9_isThread_8 ?_
    replace h := pt_b2s h; obtain ⟨r4, σ4, e4, h⟩ := h
    refine pt_cVi (As := []) (rest := []) S (m_X6_threads l hDa e4) (cwV 0 S.2.2.2.2 gX9_isThread_X6_threads rfl rfl rfl (by decide +kernel) ⟨Nat.le_of_ble_eq_true rfl, Nat.le_of_ble_eq_true rfl⟩) hK hP hS hZ 5 6 rfl rfl rfl hl.1 rfl (Nat.le_of_ble_eq_true rfl) dX9_isThread_11 ⟨Nat.zero_le _, Nat.zero_le _⟩ (fun H locs hP hS => ?_)
    refine lv_goto (tgt := 19) hx hb dX9_isThread_14 (by decide) ?_
    refine lv_istore_n (lv' := [(2, .int r4), (0, .ref (ad 0)), (1, .int a1)]) hx hb dX9_isThread_19 rfl hl (by decide) rfl (fun ls hl => ?_)
    refine lv_iload_n hx hb dX9_isThread_20 rfl (lv_at hl 2 rfl) ?_
    refine lv_if_lt (tgt := 33) hx hb dX9_isThread_21 (by decide) (fun c5 => ?_) (fun c5 => ?_)
    · replace h := pt_ip c5 h
      refine lv_iconst (v := 0) hx hb dX9_isThread_33 (by decide) ?_
      exact pt_zret S hr hlk hP hS (Or.inl rfl) (pt_pr h).1 (congrArg (wC ca ad) (pt_pr h).2) dX9_isThread_34
    · replace h := pt_iN c5 h
      refine lv_iload_n hx hb dX9_isThread_24 rfl (lv_at hl 2 rfl) ?_
      refine lv_iload_n hx hb dX9_isThread_25 rfl (lv_at hl 0 rfl) ?_
      refine lv_icmp_ge (tgt := 33) hx hb dX9_isThread_26 (by decide) (fun c6 => ?_) (fun c6 => ?_)
      · replace h := pt_ip c6 h
        refine lv_iconst (v := 0) hx hb dX9_isThread_33 (by decide) ?_
        exact pt_zret S hr hlk hP hS (Or.inl rfl) (pt_pr h).1 (congrArg (wC ca ad) (pt_pr h).2) dX9_isThread_34
      · replace h := pt_iN c6 h
        refine lv_iconst (v := 1) hx hb dX9_isThread_29 (by decide) ?_
        refine lv_goto (tgt := 34) hx hb dX9_isThread_30 (by decide) ?_
        exact pt_zret S hr hlk hP hS (Or.inr rfl) (pt_pr h).1 (congrArg (wC ca ad) (pt_pr h).2) dX9_isThread_34

def f_X9_turn (σ : pt_St) (a1 : Int32) : Option (Int32 × pt_St) :=
  pt_b2 (f_X9_isThread σ a1) fun r1 σ1 =>
  if r1 = (0 : Int32) then
  some ((-2 : Int32), σ1)
  else
  if (σ1 0 5) = (0 : Int32) then
  some ((-3 : Int32), σ1)
  else
  pt_b2 (f_X6_giveTurn σ1 a1) fun r4 σ4 =>
  if r4 = (0 : Int32) then
  some ((0 : Int32), σ4)
  else
  some ((1 : Int32), σ4)
set_option maxHeartbeats 4000000 in
set_option maxRecDepth 100000 in
theorem m_X9_turn (l : Launch) {D : va_G} {A : Nat → Prop} {ca : Nat → ClassId} {ad : Nat → Nat} {z : Nat × Nat} (hDa : ∀ σ, va_D A (wC ca ad σ)) {σ σ' : pt_St} {r : Int32} {a1 : Int32} (h : f_X9_turn σ a1 = some (r, σ')) : Met l yX9_turn wsX9_turn { frames := 5, cells := 0, slots := 0, locals := 113 } (va_Pc [.ref (ad 0), .int a1] (pt_Pre D (tysC ca) z A (wC ca ad σ))) (pt_Q (some (.int r)) D (wC ca ad σ') A) 0 0 A := by
  refine Met.ofW (cc := cX9_turn) (maxL := 2) (ret := (some .int)) (by decide) rfl ?_
  intro p e s m args below meth c s₁ B hml hv
  obtain ⟨rfl, hP, hK, hZ⟩ := hv
  have S : CallFix p m c cX9_turn 2 s ([.ref (ad 0), .int a1] : List Value).toArray wsX9_turn RX9 := ⟨B.exec, B.bytes, hml, findClass_of_methodNamed B.named, atoms_spec (ws := wsX9_turn) B.pre⟩
  have hx := S.1
  have hb := S.2.1
  have hr := B.returns
  have hlk := B.notSynchronized
  clear B
  have hiX9 : ∀ w ∈ wsX90, w ∈ wsX9_turn := fun w h => List.mem_cons_of_mem _ (List.mem_append_left _ (List.mem_append_left _ (List.mem_append_left _ (List.mem_append_left _ (List.mem_append_left _ (List.mem_append_left _ (List.mem_append_left _ (List.mem_append_left _ (List.mem_append_left _ (List.mem_append_right _ h))))))))))
  have hiX6 : ∀ w ∈ wsX60, w ∈ wsX9_turn := fun w h => List.mem_cons_of_mem _ (List.mem_append_left _ (List.mem_append_left _ (List.mem_append_left _ (List.mem_append_left _ (List.mem_append_left _ (List.mem_append_left _ (List.mem_append_left _ (List.mem_append_left _ (List.mem_append_right _ h)))))))))
  have hiX8 : ∀ w ∈ wsX80, w ∈ wsX9_turn := fun w h => List.mem_cons_of_mem _ (List.mem_append_left _ (List.mem_append_left _ (List.mem_append_left _ (List.mem_append_left _ (List.mem_append_left _ (List.mem_append_left _ (List.mem_append_left _ (List.mem_append_right _ h))))))))
  have hiX4 : ∀ w ∈ wsX40, w ∈ wsX9_turn := fun w h => List.mem_cons_of_mem _ (List.mem_append_left _ (List.mem_append_left _ (List.mem_append_left _ (List.mem_append_left _ (List.mem_append_left _ (List.mem_append_left _ (List.mem_append_right _ h)))))))
  have hiX0 : ∀ w ∈ wsX00, w ∈ wsX9_turn := fun w h => List.mem_cons_of_mem _ (List.mem_append_left _ (List.mem_append_left _ (List.mem_append_left _ (List.mem_append_left _ (List.mem_append_left _ (List.mem_append_right _ h))))))
  have hiX2 : ∀ w ∈ wsX20, w ∈ wsX9_turn := fun w h => List.mem_cons_of_mem _ (List.mem_append_left _ (List.mem_append_left _ (List.mem_append_left _ (List.mem_append_left _ (List.mem_append_right _ h)))))
  have hiX5 : ∀ w ∈ wsX50, w ∈ wsX9_turn := fun w h => List.mem_cons_of_mem _ (List.mem_append_left _ (List.mem_append_left _ (List.mem_append_left _ (List.mem_append_right _ h))))
  have hiX7 : ∀ w ∈ wsX70, w ∈ wsX9_turn := fun w h => List.mem_cons_of_mem _ (List.mem_append_left _ (List.mem_append_left _ (List.mem_append_right _ h)))
  have hiX1 : ∀ w ∈ wsX10, w ∈ wsX9_turn := fun w h => List.mem_cons_of_mem _ (List.mem_append_left _ (List.mem_append_right _ h))
  have hiX3 : ∀ w ∈ wsX30, w ∈ wsX9_turn := fun w h => List.mem_cons_of_mem _ (List.mem_append_right _ h)
  have hf48 : (Cond.fieldLink RX9 48 "PackThreads" "begun" "Z").before _ s = true := S.2.2.2.2 _ (List.mem_of_getElem? (i := 1) rfl)
  have hf44 : (Cond.fieldLink RX9 44 "PackThreads" "stream" "LPackThreads$Stream;").before _ s = true := S.2.2.2.2 _ (List.mem_of_getElem? (i := 2) rfl)
  have hS : va_S A s.heap s.heap [] := va_S.rf
  have hl := lv_entry ([.ref (ad 0), .int a1]) (n := 2) (Nat.le_of_ble_eq_true rfl)
  rw [lg_entry_eq]
  generalize (lg_sl ([.ref (ad 0), .int a1]) ++ List.replicate (2 - (lg_sl ([.ref (ad 0), .int a1])).length) Slot.unset).toArray = ls at hl ⊢
  have hl : lv_has ls 2 [(0, .ref (ad 0)), (1, .int a1)] := hl
  unfold f_X9_turn at h
  refine lv_aload_n hx hb dX9_turn_0 rfl (lv_at hl 0 rfl) ?_
  refine lv_iload_n hx hb dX9_turn_1 rfl (lv_at hl 1 rfl) ?_
  replace h := pt_b2s h; obtain ⟨r1, σ1, e1, h⟩ := h
  refine pt_cVi (As := [.int a1]) (rest := []) S (m_X9_isThread l hDa e1) (cwV 1 S.2.2.2.2 gX9_turn_X9_isThread rfl rfl rfl (by decide +kernel) ⟨Nat.le_of_ble_eq_true rfl, Nat.le_of_ble_eq_true rfl⟩) hK hP hS hZ 0 9 rfl rfl rfl hl.1 rfl (Nat.le_of_ble_eq_true rfl) dX9_turn_2 ⟨Nat.zero_le _, Nat.zero_le _⟩ (fun H locs hP hS => ?_)
  refine lv_if_ne (tgt := 11) hx hb dX9_turn_5 (by decide) (fun c2 => ?_) (fun c2 => ?_)
  · replace h := pt_iN c2 h
    refine lv_aload_n hx hb dX9_turn_11 rfl (lv_at hl 0 rfl) ?_
    refine gf_X9_5 S hiX9 hK hP hf48 dX9_turn_12 ?_
    refine lv_if_ne (tgt := 21) hx hb dX9_turn_15 (by decide) (fun c3 => ?_) (fun c3 => ?_)
    · replace h := pt_iN c3 h
      refine lv_aload_n hx hb dX9_turn_21 rfl (lv_at hl 0 rfl) ?_
      refine gf_X9_4 S hiX9 hK hP hf44 dX9_turn_22 ?_
      refine lv_iload_n hx hb dX9_turn_25 rfl (lv_at hl 1 rfl) ?_
      replace h := pt_b2s h; obtain ⟨r4, σ4, e4, h⟩ := h
      refine pt_cVi (As := [.int a1]) (rest := []) S (m_X6_giveTurn l hDa e4) (cwV 1 S.2.2.2.2 gX9_turn_X6_giveTurn rfl rfl rfl (by decide +kernel) ⟨Nat.le_of_ble_eq_true rfl, Nat.le_of_ble_eq_true rfl⟩) hK hP hS hZ 5 6 rfl rfl rfl hl.1 rfl (Nat.le_of_ble_eq_true rfl) dX9_turn_26 ⟨Nat.zero_le _, Nat.zero_le _⟩ (fun H locs hP hS => ?_)
      refine lv_if_eq (tgt := 36) hx hb dX9_turn_29 (by decide) (fun c5 => ?_) (fun c5 => ?_)
      · replace h := pt_ip c5 h
        refine lv_iconst (v := 0) hx hb dX9_turn_36 (by decide) ?_
        exact pt_iret S hr hlk hP hS (pt_pr h).1 (congrArg (wC ca ad) (pt_pr h).2) dX9_turn_37
      · replace h := pt_iN c5 h
        refine lv_iconst (v := 1) hx hb dX9_turn_32 (by decide) ?_
        refine lv_goto (tgt := 37) hx hb dX9_turn_33 (by decide) ?_
        exact pt_iret S hr hlk hP hS (pt_pr h).1 (congrArg (wC ca ad) (pt_pr h).2) dX9_turn_37
    · replace h := pt_ip c3 h
      refine lv_bipush (v := -3) hx hb dX9_turn_18 (by decide) ?_
      exact pt_iret S hr hlk hP hS (pt_pr h).1 (congrArg (wC ca ad) (pt_pr h).2) dX9_turn_20
  · replace h := pt_ip c2 h
    refine lv_bipush (v := -2) hx hb dX9_turn_8 (by decide) ?_
    exact pt_iret S hr hlk hP hS (pt_pr h).1 (congrArg (wC ca ad) (pt_pr h).2) dX9_turn_10

def f_X9_run (σ : pt_St) (a1 : Int32) : Option (Int32 × pt_St) :=
  if a1 < (0 : Int32) then
  some ((-2 : Int32), σ)
  else
  if a1 ≤ (400 : Int32) then
  if (σ 0 5) = (0 : Int32) then
  some ((-3 : Int32), σ)
  else
  pt_b2 (f_X6_giveTurnsInRing σ a1) fun r4 σ4 =>
  some (r4, σ4)
  else
  some ((-2 : Int32), σ)
set_option maxHeartbeats 4000000 in
set_option maxRecDepth 100000 in
theorem m_X9_run (l : Launch) {D : va_G} {A : Nat → Prop} {ca : Nat → ClassId} {ad : Nat → Nat} {z : Nat × Nat} (hDa : ∀ σ, va_D A (wC ca ad σ)) {σ σ' : pt_St} {r : Int32} {a1 : Int32} (h : f_X9_run σ a1 = some (r, σ')) : Met l yX9_run wsX9_run { frames := 6, cells := 0, slots := 0, locals := 137 } (va_Pc [.ref (ad 0), .int a1] (pt_Pre D (tysC ca) z A (wC ca ad σ))) (pt_Q (some (.int r)) D (wC ca ad σ') A) 0 0 A := by
  refine Met.ofW (cc := cX9_run) (maxL := 2) (ret := (some .int)) (by decide) rfl ?_
  intro p e s m args below meth c s₁ B hml hv
  obtain ⟨rfl, hP, hK, hZ⟩ := hv
  have S : CallFix p m c cX9_run 2 s ([.ref (ad 0), .int a1] : List Value).toArray wsX9_run RX9 := ⟨B.exec, B.bytes, hml, findClass_of_methodNamed B.named, atoms_spec (ws := wsX9_run) B.pre⟩
  have hx := S.1
  have hb := S.2.1
  have hr := B.returns
  have hlk := B.notSynchronized
  clear B
  have hiX9 : ∀ w ∈ wsX90, w ∈ wsX9_run := fun w h => List.mem_cons_of_mem _ (List.mem_append_left _ (List.mem_append_left _ (List.mem_append_left _ (List.mem_append_left _ (List.mem_append_left _ (List.mem_append_left _ (List.mem_append_left _ (List.mem_append_left _ (List.mem_append_left _ (List.mem_append_right _ h))))))))))
  have hiX6 : ∀ w ∈ wsX60, w ∈ wsX9_run := fun w h => List.mem_cons_of_mem _ (List.mem_append_left _ (List.mem_append_left _ (List.mem_append_left _ (List.mem_append_left _ (List.mem_append_left _ (List.mem_append_left _ (List.mem_append_left _ (List.mem_append_left _ (List.mem_append_right _ h)))))))))
  have hiX8 : ∀ w ∈ wsX80, w ∈ wsX9_run := fun w h => List.mem_cons_of_mem _ (List.mem_append_left _ (List.mem_append_left _ (List.mem_append_left _ (List.mem_append_left _ (List.mem_append_left _ (List.mem_append_left _ (List.mem_append_left _ (List.mem_append_right _ h))))))))
  have hiX4 : ∀ w ∈ wsX40, w ∈ wsX9_run := fun w h => List.mem_cons_of_mem _ (List.mem_append_left _ (List.mem_append_left _ (List.mem_append_left _ (List.mem_append_left _ (List.mem_append_left _ (List.mem_append_left _ (List.mem_append_right _ h)))))))
  have hiX0 : ∀ w ∈ wsX00, w ∈ wsX9_run := fun w h => List.mem_cons_of_mem _ (List.mem_append_left _ (List.mem_append_left _ (List.mem_append_left _ (List.mem_append_left _ (List.mem_append_left _ (List.mem_append_right _ h))))))
  have hiX2 : ∀ w ∈ wsX20, w ∈ wsX9_run := fun w h => List.mem_cons_of_mem _ (List.mem_append_left _ (List.mem_append_left _ (List.mem_append_left _ (List.mem_append_left _ (List.mem_append_right _ h)))))
  have hiX5 : ∀ w ∈ wsX50, w ∈ wsX9_run := fun w h => List.mem_cons_of_mem _ (List.mem_append_left _ (List.mem_append_left _ (List.mem_append_left _ (List.mem_append_right _ h))))
  have hiX7 : ∀ w ∈ wsX70, w ∈ wsX9_run := fun w h => List.mem_cons_of_mem _ (List.mem_append_left _ (List.mem_append_left _ (List.mem_append_right _ h)))
  have hiX1 : ∀ w ∈ wsX10, w ∈ wsX9_run := fun w h => List.mem_cons_of_mem _ (List.mem_append_left _ (List.mem_append_right _ h))
  have hiX3 : ∀ w ∈ wsX30, w ∈ wsX9_run := fun w h => List.mem_cons_of_mem _ (List.mem_append_right _ h)
  have hf48 : (Cond.fieldLink RX9 48 "PackThreads" "begun" "Z").before _ s = true := S.2.2.2.2 _ (List.mem_of_getElem? (i := 1) rfl)
  have hf44 : (Cond.fieldLink RX9 44 "PackThreads" "stream" "LPackThreads$Stream;").before _ s = true := S.2.2.2.2 _ (List.mem_of_getElem? (i := 2) rfl)
  have hS : va_S A s.heap s.heap [] := va_S.rf
  have hl := lv_entry ([.ref (ad 0), .int a1]) (n := 2) (Nat.le_of_ble_eq_true rfl)
  rw [lg_entry_eq]
  generalize (lg_sl ([.ref (ad 0), .int a1]) ++ List.replicate (2 - (lg_sl ([.ref (ad 0), .int a1])).length) Slot.unset).toArray = ls at hl ⊢
  have hl : lv_has ls 2 [(0, .ref (ad 0)), (1, .int a1)] := hl
  unfold f_X9_run at h
  refine lv_iload_n hx hb dX9_run_0 rfl (lv_at hl 1 rfl) ?_
  refine lv_if_lt (tgt := 11) hx hb dX9_run_1 (by decide) (fun c1 => ?_) (fun c1 => ?_)
  · replace h := pt_ip c1 h
    refine lv_bipush (v := -2) hx hb dX9_run_11 (by decide) ?_
    exact pt_iret S hr hlk hP hS (pt_pr h).1 (congrArg (wC ca ad) (pt_pr h).2) dX9_run_13
  · replace h := pt_iN c1 h
    refine lv_iload_n hx hb dX9_run_4 rfl (lv_at hl 1 rfl) ?_
    refine lv_sipush (v := 400) hx hb dX9_run_5 (by decide) ?_
    refine lv_icmp_le (tgt := 14) hx hb dX9_run_8 (by decide) (fun c2 => ?_) (fun c2 => ?_)
    · replace h := pt_ip c2 h
      refine lv_aload_n hx hb dX9_run_14 rfl (lv_at hl 0 rfl) ?_
      refine gf_X9_5 S hiX9 hK hP hf48 dX9_run_15 ?_
      refine lv_if_ne (tgt := 24) hx hb dX9_run_18 (by decide) (fun c3 => ?_) (fun c3 => ?_)
      · replace h := pt_iN c3 h
        refine lv_aload_n hx hb dX9_run_24 rfl (lv_at hl 0 rfl) ?_
        refine gf_X9_4 S hiX9 hK hP hf44 dX9_run_25 ?_
        refine lv_iload_n hx hb dX9_run_28 rfl (lv_at hl 1 rfl) ?_
        replace h := pt_b2s h; obtain ⟨r4, σ4, e4, h⟩ := h
        refine pt_cVi (As := [.int a1]) (rest := []) S (m_X6_giveTurnsInRing l hDa e4) (cwV 1 S.2.2.2.2 gX9_run_X6_giveTurnsInRing rfl rfl rfl (by decide +kernel) ⟨Nat.le_of_ble_eq_true rfl, Nat.le_of_ble_eq_true rfl⟩) hK hP hS hZ 5 6 rfl rfl rfl hl.1 rfl (Nat.le_of_ble_eq_true rfl) dX9_run_29 ⟨Nat.zero_le _, Nat.zero_le _⟩ (fun H locs hP hS => ?_)
        exact pt_iret S hr hlk hP hS (pt_pr h).1 (congrArg (wC ca ad) (pt_pr h).2) dX9_run_32
      · replace h := pt_ip c3 h
        refine lv_bipush (v := -3) hx hb dX9_run_21 (by decide) ?_
        exact pt_iret S hr hlk hP hS (pt_pr h).1 (congrArg (wC ca ad) (pt_pr h).2) dX9_run_23
    · replace h := pt_iN c2 h
      refine lv_bipush (v := -2) hx hb dX9_run_11 (by decide) ?_
      exact pt_iret S hr hlk hP hS (pt_pr h).1 (congrArg (wC ca ad) (pt_pr h).2) dX9_run_13

def f_X9_interrupt (σ : pt_St) (a1 : Int32) : Option (Int32 × pt_St) :=
  pt_b2 (f_X9_isThread σ a1) fun r1 σ1 =>
  if r1 = (0 : Int32) then
  some ((-2 : Int32), σ1)
  else
  if (σ1 0 5) = (0 : Int32) then
  some ((-3 : Int32), σ1)
  else
  pt_b2 (f_X6_markInterrupted σ1 a1) fun r4 σ4 =>
  if r4 = (0 : Int32) then
  some ((0 : Int32), σ4)
  else
  some ((1 : Int32), σ4)
set_option maxHeartbeats 4000000 in
set_option maxRecDepth 100000 in
theorem m_X9_interrupt (l : Launch) {D : va_G} {A : Nat → Prop} {ca : Nat → ClassId} {ad : Nat → Nat} {z : Nat × Nat} (hDa : ∀ σ, va_D A (wC ca ad σ)) {σ σ' : pt_St} {r : Int32} {a1 : Int32} (h : f_X9_interrupt σ a1 = some (r, σ')) : Met l yX9_interrupt wsX9_interrupt { frames := 2, cells := 0, slots := 0, locals := 43 } (va_Pc [.ref (ad 0), .int a1] (pt_Pre D (tysC ca) z A (wC ca ad σ))) (pt_Q (some (.int r)) D (wC ca ad σ') A) 0 0 A := by
  refine Met.ofW (cc := cX9_interrupt) (maxL := 2) (ret := (some .int)) (by decide) rfl ?_
  intro p e s m args below meth c s₁ B hml hv
  obtain ⟨rfl, hP, hK, hZ⟩ := hv
  have S : CallFix p m c cX9_interrupt 2 s ([.ref (ad 0), .int a1] : List Value).toArray wsX9_interrupt RX9 := ⟨B.exec, B.bytes, hml, findClass_of_methodNamed B.named, atoms_spec (ws := wsX9_interrupt) B.pre⟩
  have hx := S.1
  have hb := S.2.1
  have hr := B.returns
  have hlk := B.notSynchronized
  clear B
  have hiX9 : ∀ w ∈ wsX90, w ∈ wsX9_interrupt := fun w h => List.mem_cons_of_mem _ (List.mem_append_left _ (List.mem_append_left _ (List.mem_append_right _ h)))
  have hiX6 : ∀ w ∈ wsX60, w ∈ wsX9_interrupt := fun w h => List.mem_cons_of_mem _ (List.mem_append_left _ (List.mem_append_right _ h))
  have hiX8 : ∀ w ∈ wsX80, w ∈ wsX9_interrupt := fun w h => List.mem_cons_of_mem _ (List.mem_append_right _ h)
  have hf48 : (Cond.fieldLink RX9 48 "PackThreads" "begun" "Z").before _ s = true := S.2.2.2.2 _ (List.mem_of_getElem? (i := 1) rfl)
  have hf44 : (Cond.fieldLink RX9 44 "PackThreads" "stream" "LPackThreads$Stream;").before _ s = true := S.2.2.2.2 _ (List.mem_of_getElem? (i := 2) rfl)
  have hS : va_S A s.heap s.heap [] := va_S.rf
  have hl := lv_entry ([.ref (ad 0), .int a1]) (n := 2) (Nat.le_of_ble_eq_true rfl)
  rw [lg_entry_eq]
  generalize (lg_sl ([.ref (ad 0), .int a1]) ++ List.replicate (2 - (lg_sl ([.ref (ad 0), .int a1])).length) Slot.unset).toArray = ls at hl ⊢
  have hl : lv_has ls 2 [(0, .ref (ad 0)), (1, .int a1)] := hl
  unfold f_X9_interrupt at h
  refine lv_aload_n hx hb dX9_interrupt_0 rfl (lv_at hl 0 rfl) ?_
  refine lv_iload_n hx hb dX9_interrupt_1 rfl (lv_at hl 1 rfl) ?_
  replace h := pt_b2s h; obtain ⟨r1, σ1, e1, h⟩ := h
  refine pt_cVi (As := [.int a1]) (rest := []) S (m_X9_isThread l hDa e1) (cwV 1 S.2.2.2.2 gX9_interrupt_X9_isThread rfl rfl rfl (by decide +kernel) ⟨Nat.le_of_ble_eq_true rfl, Nat.le_of_ble_eq_true rfl⟩) hK hP hS hZ 0 9 rfl rfl rfl hl.1 rfl (Nat.le_of_ble_eq_true rfl) dX9_interrupt_2 ⟨Nat.zero_le _, Nat.zero_le _⟩ (fun H locs hP hS => ?_)
  refine lv_if_ne (tgt := 11) hx hb dX9_interrupt_5 (by decide) (fun c2 => ?_) (fun c2 => ?_)
  · replace h := pt_iN c2 h
    refine lv_aload_n hx hb dX9_interrupt_11 rfl (lv_at hl 0 rfl) ?_
    refine gf_X9_5 S hiX9 hK hP hf48 dX9_interrupt_12 ?_
    refine lv_if_ne (tgt := 21) hx hb dX9_interrupt_15 (by decide) (fun c3 => ?_) (fun c3 => ?_)
    · replace h := pt_iN c3 h
      refine lv_aload_n hx hb dX9_interrupt_21 rfl (lv_at hl 0 rfl) ?_
      refine gf_X9_4 S hiX9 hK hP hf44 dX9_interrupt_22 ?_
      refine lv_iload_n hx hb dX9_interrupt_25 rfl (lv_at hl 1 rfl) ?_
      replace h := pt_b2s h; obtain ⟨r4, σ4, e4, h⟩ := h
      refine pt_cVi (As := [.int a1]) (rest := []) S (m_X6_markInterrupted l hDa e4) (cwV 1 S.2.2.2.2 gX9_interrupt_X6_markInterrupted rfl rfl rfl (by decide +kernel) ⟨Nat.le_of_ble_eq_true rfl, Nat.le_of_ble_eq_true rfl⟩) hK hP hS hZ 5 6 rfl rfl rfl hl.1 rfl (Nat.le_of_ble_eq_true rfl) dX9_interrupt_26 ⟨Nat.zero_le _, Nat.zero_le _⟩ (fun H locs hP hS => ?_)
      refine lv_if_eq (tgt := 36) hx hb dX9_interrupt_29 (by decide) (fun c5 => ?_) (fun c5 => ?_)
      · replace h := pt_ip c5 h
        refine lv_iconst (v := 0) hx hb dX9_interrupt_36 (by decide) ?_
        exact pt_iret S hr hlk hP hS (pt_pr h).1 (congrArg (wC ca ad) (pt_pr h).2) dX9_interrupt_37
      · replace h := pt_iN c5 h
        refine lv_iconst (v := 1) hx hb dX9_interrupt_32 (by decide) ?_
        refine lv_goto (tgt := 37) hx hb dX9_interrupt_33 (by decide) ?_
        exact pt_iret S hr hlk hP hS (pt_pr h).1 (congrArg (wC ca ad) (pt_pr h).2) dX9_interrupt_37
    · replace h := pt_ip c3 h
      refine lv_bipush (v := -3) hx hb dX9_interrupt_18 (by decide) ?_
      exact pt_iret S hr hlk hP hS (pt_pr h).1 (congrArg (wC ca ad) (pt_pr h).2) dX9_interrupt_20
  · replace h := pt_ip c2 h
    refine lv_bipush (v := -2) hx hb dX9_interrupt_8 (by decide) ?_
    exact pt_iret S hr hlk hP hS (pt_pr h).1 (congrArg (wC ca ad) (pt_pr h).2) dX9_interrupt_10

def f_X9_thread (σ : pt_St) (a1 : Int32) (a2 : Int32) : Option (Int32 × pt_St) :=
  pt_b2 (f_X9_isThread σ a1) fun r1 σ1 =>
  if r1 = (0 : Int32) then
  some ((-2 : Int32), σ1)
  else
  if a2 < (0 : Int32) then
  some ((-2 : Int32), σ1)
  else
  if a2 ≤ (4 : Int32) then
  if (σ1 0 5) = (0 : Int32) then
  some ((-3 : Int32), σ1)
  else
  pt_b2 (f_X6_tellOfThread σ1 a1 a2) fun r6 σ6 =>
  some (r6, σ6)
  else
  some ((-2 : Int32), σ1)
set_option maxHeartbeats 4000000 in
set_option maxRecDepth 100000 in
theorem m_X9_thread (l : Launch) {D : va_G} {A : Nat → Prop} {ca : Nat → ClassId} {ad : Nat → Nat} {z : Nat × Nat} (hDa : ∀ σ, va_D A (wC ca ad σ)) {σ σ' : pt_St} {r : Int32} {a1 : Int32} {a2 : Int32} (h : f_X9_thread σ a1 a2 = some (r, σ')) : Met l yX9_thread wsX9_thread { frames := 2, cells := 0, slots := 0, locals := 44 } (va_Pc [.ref (ad 0), .int a1, .int a2] (pt_Pre D (tysC ca) z A (wC ca ad σ))) (pt_Q (some (.int r)) D (wC ca ad σ') A) 0 0 A := by
  refine Met.ofW (cc := cX9_thread) (maxL := 3) (ret := (some .int)) (by decide) rfl ?_
  intro p e s m args below meth c s₁ B hml hv
  obtain ⟨rfl, hP, hK, hZ⟩ := hv
  have S : CallFix p m c cX9_thread 3 s ([.ref (ad 0), .int a1, .int a2] : List Value).toArray wsX9_thread RX9 := ⟨B.exec, B.bytes, hml, findClass_of_methodNamed B.named, atoms_spec (ws := wsX9_thread) B.pre⟩
  have hx := S.1
  have hb := S.2.1
  have hr := B.returns
  have hlk := B.notSynchronized
  clear B
  have hiX9 : ∀ w ∈ wsX90, w ∈ wsX9_thread := fun w h => List.mem_cons_of_mem _ (List.mem_append_left _ (List.mem_append_left _ (List.mem_append_right _ h)))
  have hiX6 : ∀ w ∈ wsX60, w ∈ wsX9_thread := fun w h => List.mem_cons_of_mem _ (List.mem_append_left _ (List.mem_append_right _ h))
  have hiX8 : ∀ w ∈ wsX80, w ∈ wsX9_thread := fun w h => List.mem_cons_of_mem _ (List.mem_append_right _ h)
  have hf48 : (Cond.fieldLink RX9 48 "PackThreads" "begun" "Z").before _ s = true := S.2.2.2.2 _ (List.mem_of_getElem? (i := 1) rfl)
  have hf44 : (Cond.fieldLink RX9 44 "PackThreads" "stream" "LPackThreads$Stream;").before _ s = true := S.2.2.2.2 _ (List.mem_of_getElem? (i := 2) rfl)
  have hS : va_S A s.heap s.heap [] := va_S.rf
  have hl := lv_entry ([.ref (ad 0), .int a1, .int a2]) (n := 3) (Nat.le_of_ble_eq_true rfl)
  rw [lg_entry_eq]
  generalize (lg_sl ([.ref (ad 0), .int a1, .int a2]) ++ List.replicate (3 - (lg_sl ([.ref (ad 0), .int a1, .int a2])).length) Slot.unset).toArray = ls at hl ⊢
  have hl : lv_has ls 3 [(0, .ref (ad 0)), (1, .int a1), (2, .int a2)] := hl
  unfold f_X9_thread at h
  refine lv_aload_n hx hb dX9_thread_0 rfl (lv_at hl 0 rfl) ?_
  refine lv_iload_n hx hb dX9_thread_1 rfl (lv_at hl 1 rfl) ?_
  replace h := pt_b2s h; obtain ⟨r1, σ1, e1, h⟩ := h
  refine pt_cVi (As := [.int a1]) (rest := []) S (m_X9_isThread l hDa e1) (cwV 1 S.2.2.2.2 gX9_thread_X9_isThread rfl rfl rfl (by decide +kernel) ⟨Nat.le_of_ble_eq_true rfl, Nat.le_of_ble_eq_true rfl⟩) hK hP hS hZ 0 9 rfl rfl rfl hl.1 rfl (Nat.le_of_ble_eq_true rfl) dX9_thread_2 ⟨Nat.zero_le _, Nat.zero_le _⟩ (fun H locs hP hS => ?_)
  refine lv_if_eq (tgt := 17) hx hb dX9_thread_5 (by decide) (fun c2 => ?_) (fun c2 => ?_)
  · replace h := pt_ip c2 h
    refine lv_bipush (v := -2) hx hb dX9_thread_17 (by decide) ?_
    exact pt_iret S hr hlk hP hS (pt_pr h).1 (congrArg (wC ca ad) (pt_pr h).2) dX9_thread_19
  · replace h := pt_iN c2 h
    refine lv_iload_n hx hb dX9_thread_8 rfl (lv_at hl 2 rfl) ?_
    refine lv_if_lt (tgt := 17) hx hb dX9_thread_9 (by decide) (fun c3 => ?_) (fun c3 => ?_)
    · replace h := pt_ip c3 h
      refine lv_bipush (v := -2) hx hb dX9_thread_17 (by decide) ?_
      exact pt_iret S hr hlk hP hS (pt_pr h).1 (congrArg (wC ca ad) (pt_pr h).2) dX9_thread_19
    · replace h := pt_iN c3 h
      refine lv_iload_n hx hb dX9_thread_12 rfl (lv_at hl 2 rfl) ?_
      refine lv_iconst (v := 4) hx hb dX9_thread_13 (by decide) ?_
      refine lv_icmp_le (tgt := 20) hx hb dX9_thread_14 (by decide) (fun c4 => ?_) (fun c4 => ?_)
      · replace h := pt_ip c4 h
        refine lv_aload_n hx hb dX9_thread_20 rfl (lv_at hl 0 rfl) ?_
        refine gf_X9_5 S hiX9 hK hP hf48 dX9_thread_21 ?_
        refine lv_if_ne (tgt := 30) hx hb dX9_thread_24 (by decide) (fun c5 => ?_) (fun c5 => ?_)
        · replace h := pt_iN c5 h
          refine lv_aload_n hx hb dX9_thread_30 rfl (lv_at hl 0 rfl) ?_
          refine gf_X9_4 S hiX9 hK hP hf44 dX9_thread_31 ?_
          refine lv_iload_n hx hb dX9_thread_34 rfl (lv_at hl 1 rfl) ?_
          refine lv_iload_n hx hb dX9_thread_35 rfl (lv_at hl 2 rfl) ?_
          replace h := pt_b2s h; obtain ⟨r6, σ6, e6, h⟩ := h
          refine pt_cVi (As := [.int a1, .int a2]) (rest := []) S (m_X6_tellOfThread l hDa e6) (cwV 2 S.2.2.2.2 gX9_thread_X6_tellOfThread rfl rfl rfl (by decide +kernel) ⟨Nat.le_of_ble_eq_true rfl, Nat.le_of_ble_eq_true rfl⟩) hK hP hS hZ 5 6 rfl rfl rfl hl.1 rfl (Nat.le_of_ble_eq_true rfl) dX9_thread_36 ⟨Nat.zero_le _, Nat.zero_le _⟩ (fun H locs hP hS => ?_)
          exact pt_iret S hr hlk hP hS (pt_pr h).1 (congrArg (wC ca ad) (pt_pr h).2) dX9_thread_39
        · replace h := pt_ip c5 h
          refine lv_bipush (v := -3) hx hb dX9_thread_27 (by decide) ?_
          exact pt_iret S hr hlk hP hS (pt_pr h).1 (congrArg (wC ca ad) (pt_pr h).2) dX9_thread_29
      · replace h := pt_iN c4 h
        refine lv_bipush (v := -2) hx hb dX9_thread_17 (by decide) ?_
        exact pt_iret S hr hlk hP hS (pt_pr h).1 (congrArg (wC ca ad) (pt_pr h).2) dX9_thread_19

def f_X9_out (σ : pt_St) (a1 : Int32) : Option (Int32 × pt_St) :=
  if (σ 0 5) = (0 : Int32) then
  some ((-1 : Int32), σ)
  else
  if a1 < (0 : Int32) then
  some ((-1 : Int32), σ)
  else
  pt_b2 (f_X6_joinedBytes σ) fun r3 σ3 =>
  if a1 < r3 then
  pt_b2 (f_X2_byteAt σ3 a1) fun r5 σ5 =>
  some (r5, σ5)
  else
  some ((-1 : Int32), σ3)
set_option maxHeartbeats 4000000 in
set_option maxRecDepth 100000 in
theorem m_X9_out (l : Launch) {D : va_G} {A : Nat → Prop} {ca : Nat → ClassId} {ad : Nat → Nat} {z : Nat × Nat} (hDa : ∀ σ, va_D A (wC ca ad σ)) {σ σ' : pt_St} {r : Int32} {a1 : Int32} (h : f_X9_out σ a1 = some (r, σ')) : Met l yX9_out wsX9_out { frames := 2, cells := 0, slots := 0, locals := 41 } (va_Pc [.ref (ad 0), .int a1] (pt_Pre D (tysC ca) z A (wC ca ad σ))) (pt_Q (some (.int r)) D (wC ca ad σ') A) 0 0 A := by
  refine Met.ofW (cc := cX9_out) (maxL := 2) (ret := (some .int)) (by decide) rfl ?_
  intro p e s m args below meth c s₁ B hml hv
  obtain ⟨rfl, hP, hK, hZ⟩ := hv
  have S : CallFix p m c cX9_out 2 s ([.ref (ad 0), .int a1] : List Value).toArray wsX9_out RX9 := ⟨B.exec, B.bytes, hml, findClass_of_methodNamed B.named, atoms_spec (ws := wsX9_out) B.pre⟩
  have hx := S.1
  have hb := S.2.1
  have hr := B.returns
  have hlk := B.notSynchronized
  clear B
  have hiX9 : ∀ w ∈ wsX90, w ∈ wsX9_out := fun w h => List.mem_cons_of_mem _ (List.mem_append_left _ (List.mem_append_left _ (List.mem_append_left _ (List.mem_append_right _ h))))
  have hiX6 : ∀ w ∈ wsX60, w ∈ wsX9_out := fun w h => List.mem_cons_of_mem _ (List.mem_append_left _ (List.mem_append_left _ (List.mem_append_right _ h)))
  have hiX4 : ∀ w ∈ wsX40, w ∈ wsX9_out := fun w h => List.mem_cons_of_mem _ (List.mem_append_left _ (List.mem_append_right _ h))
  have hiX2 : ∀ w ∈ wsX20, w ∈ wsX9_out := fun w h => List.mem_cons_of_mem _ (List.mem_append_right _ h)
  have hf48 : (Cond.fieldLink RX9 48 "PackThreads" "begun" "Z").before _ s = true := S.2.2.2.2 _ (List.mem_of_getElem? (i := 1) rfl)
  have hf44 : (Cond.fieldLink RX9 44 "PackThreads" "stream" "LPackThreads$Stream;").before _ s = true := S.2.2.2.2 _ (List.mem_of_getElem? (i := 2) rfl)
  have hf35 : (Cond.fieldLink RX9 35 "PackThreads" "packs" "LPackThreads$Packs;").before _ s = true := S.2.2.2.2 _ (List.mem_of_getElem? (i := 3) rfl)
  have hS : va_S A s.heap s.heap [] := va_S.rf
  have hl := lv_entry ([.ref (ad 0), .int a1]) (n := 2) (Nat.le_of_ble_eq_true rfl)
  rw [lg_entry_eq]
  generalize (lg_sl ([.ref (ad 0), .int a1]) ++ List.replicate (2 - (lg_sl ([.ref (ad 0), .int a1])).length) Slot.unset).toArray = ls at hl ⊢
  have hl : lv_has ls 2 [(0, .ref (ad 0)), (1, .int a1)] := hl
  unfold f_X9_out at h
  refine lv_aload_n hx hb dX9_out_0 rfl (lv_at hl 0 rfl) ?_
  refine gf_X9_5 S hiX9 hK hP hf48 dX9_out_1 ?_
  refine lv_if_eq (tgt := 22) hx hb dX9_out_4 (by decide) (fun c1 => ?_) (fun c1 => ?_)
  · replace h := pt_ip c1 h
    refine lv_iconst (v := -1) hx hb dX9_out_22 (by decide) ?_
    exact pt_iret S hr hlk hP hS (pt_pr h).1 (congrArg (wC ca ad) (pt_pr h).2) dX9_out_23
  · replace h := pt_iN c1 h
    refine lv_iload_n hx hb dX9_out_7 rfl (lv_at hl 1 rfl) ?_
    refine lv_if_lt (tgt := 22) hx hb dX9_out_8 (by decide) (fun c2 => ?_) (fun c2 => ?_)
    · replace h := pt_ip c2 h
      refine lv_iconst (v := -1) hx hb dX9_out_22 (by decide) ?_
      exact pt_iret S hr hlk hP hS (pt_pr h).1 (congrArg (wC ca ad) (pt_pr h).2) dX9_out_23
    · replace h := pt_iN c2 h
      refine lv_iload_n hx hb dX9_out_11 rfl (lv_at hl 1 rfl) ?_
      refine lv_aload_n hx hb dX9_out_12 rfl (lv_at hl 0 rfl) ?_
      refine gf_X9_4 S hiX9 hK hP hf44 dX9_out_13 ?_
      replace h := pt_b2s h; obtain ⟨r3, σ3, e3, h⟩ := h
      refine pt_cVi (As := []) (rest := [.int a1]) S (m_X6_joinedBytes l hDa e3) (cwV 0 S.2.2.2.2 gX9_out_X6_joinedBytes rfl rfl rfl (by decide +kernel) ⟨Nat.le_of_ble_eq_true rfl, Nat.le_of_ble_eq_true rfl⟩) hK hP hS hZ 5 6 rfl rfl rfl hl.1 rfl (Nat.le_of_ble_eq_true rfl) dX9_out_16 ⟨Nat.zero_le _, Nat.zero_le _⟩ (fun H locs hP hS => ?_)
      refine lv_icmp_lt (tgt := 24) hx hb dX9_out_19 (by decide) (fun c4 => ?_) (fun c4 => ?_)
      · replace h := pt_ip c4 h
        refine lv_aload_n hx hb dX9_out_24 rfl (lv_at hl 0 rfl) ?_
        refine gf_X9_3 S hiX9 hK hP hf35 dX9_out_25 ?_
        refine lv_iload_n hx hb dX9_out_28 rfl (lv_at hl 1 rfl) ?_
        replace h := pt_b2s h; obtain ⟨r5, σ5, e5, h⟩ := h
        refine pt_cVi (As := [.int a1]) (rest := []) S (m_X2_byteAt l hDa e5) (cwV 1 S.2.2.2.2 gX9_out_X2_byteAt rfl rfl rfl (by decide +kernel) ⟨Nat.le_of_ble_eq_true rfl, Nat.le_of_ble_eq_true rfl⟩) hK hP hS hZ 4 2 rfl rfl rfl hl.1 rfl (Nat.le_of_ble_eq_true rfl) dX9_out_29 ⟨Nat.zero_le _, Nat.zero_le _⟩ (fun H locs hP hS => ?_)
        exact pt_iret S hr hlk hP hS (pt_pr h).1 (congrArg (wC ca ad) (pt_pr h).2) dX9_out_32
      · replace h := pt_iN c4 h
        refine lv_iconst (v := -1) hx hb dX9_out_22 (by decide) ?_
        exact pt_iret S hr hlk hP hS (pt_pr h).1 (congrArg (wC ca ad) (pt_pr h).2) dX9_out_23

def f_X9_told (σ : pt_St) (a1 : Int32) : Option (Int32 × pt_St) :=
  if a1 < (0 : Int32) then
  some ((-2 : Int32), σ)
  else
  if a1 ≤ (10 : Int32) then
  if (σ 0 5) = (0 : Int32) then
  some ((-3 : Int32), σ)
  else
  if (6 : Int32) ≤ a1 then
  pt_b2 (f_X6_tellOfCourse σ a1) fun r5 σ5 =>
  some (r5, σ5)
  else
  pt_b2 (f_X6_tellOfStores σ a1) fun r6 σ6 =>
  some (r6, σ6)
  else
  some ((-2 : Int32), σ)
set_option maxHeartbeats 4000000 in
set_option maxRecDepth 100000 in
theorem m_X9_told (l : Launch) {D : va_G} {A : Nat → Prop} {ca : Nat → ClassId} {ad : Nat → Nat} {z : Nat × Nat} (hDa : ∀ σ, va_D A (wC ca ad σ)) {σ σ' : pt_St} {r : Int32} {a1 : Int32} (h : f_X9_told σ a1 = some (r, σ')) : Met l yX9_told wsX9_told { frames := 3, cells := 0, slots := 0, locals := 62 } (va_Pc [.ref (ad 0), .int a1] (pt_Pre D (tysC ca) z A (wC ca ad σ))) (pt_Q (some (.int r)) D (wC ca ad σ') A) 0 0 A := by
  refine Met.ofW (cc := cX9_told) (maxL := 2) (ret := (some .int)) (by decide) rfl ?_
  intro p e s m args below meth c s₁ B hml hv
  obtain ⟨rfl, hP, hK, hZ⟩ := hv
  have S : CallFix p m c cX9_told 2 s ([.ref (ad 0), .int a1] : List Value).toArray wsX9_told RX9 := ⟨B.exec, B.bytes, hml, findClass_of_methodNamed B.named, atoms_spec (ws := wsX9_told) B.pre⟩
  have hx := S.1
  have hb := S.2.1
  have hr := B.returns
  have hlk := B.notSynchronized
  clear B
  have hiX9 : ∀ w ∈ wsX90, w ∈ wsX9_told := fun w h => List.mem_cons_of_mem _ (List.mem_append_left _ (List.mem_append_left _ (List.mem_append_left _ (List.mem_append_left _ (List.mem_append_left _ (List.mem_append_right _ h))))))
  have hiX6 : ∀ w ∈ wsX60, w ∈ wsX9_told := fun w h => List.mem_cons_of_mem _ (List.mem_append_left _ (List.mem_append_left _ (List.mem_append_left _ (List.mem_append_left _ (List.mem_append_right _ h)))))
  have hiX4 : ∀ w ∈ wsX40, w ∈ wsX9_told := fun w h => List.mem_cons_of_mem _ (List.mem_append_left _ (List.mem_append_left _ (List.mem_append_left _ (List.mem_append_right _ h))))
  have hiX1 : ∀ w ∈ wsX10, w ∈ wsX9_told := fun w h => List.mem_cons_of_mem _ (List.mem_append_left _ (List.mem_append_left _ (List.mem_append_right _ h)))
  have hiX2 : ∀ w ∈ wsX20, w ∈ wsX9_told := fun w h => List.mem_cons_of_mem _ (List.mem_append_left _ (List.mem_append_right _ h))
  have hiX0 : ∀ w ∈ wsX00, w ∈ wsX9_told := fun w h => List.mem_cons_of_mem _ (List.mem_append_right _ h)
  have hf48 : (Cond.fieldLink RX9 48 "PackThreads" "begun" "Z").before _ s = true := S.2.2.2.2 _ (List.mem_of_getElem? (i := 1) rfl)
  have hf44 : (Cond.fieldLink RX9 44 "PackThreads" "stream" "LPackThreads$Stream;").before _ s = true := S.2.2.2.2 _ (List.mem_of_getElem? (i := 2) rfl)
  have hS : va_S A s.heap s.heap [] := va_S.rf
  have hl := lv_entry ([.ref (ad 0), .int a1]) (n := 2) (Nat.le_of_ble_eq_true rfl)
  rw [lg_entry_eq]
  generalize (lg_sl ([.ref (ad 0), .int a1]) ++ List.replicate (2 - (lg_sl ([.ref (ad 0), .int a1])).length) Slot.unset).toArray = ls at hl ⊢
  have hl : lv_has ls 2 [(0, .ref (ad 0)), (1, .int a1)] := hl
  unfold f_X9_told at h
  refine lv_iload_n hx hb dX9_told_0 rfl (lv_at hl 1 rfl) ?_
  refine lv_if_lt (tgt := 10) hx hb dX9_told_1 (by decide) (fun c1 => ?_) (fun c1 => ?_)
  · replace h := pt_ip c1 h
    refine lv_bipush (v := -2) hx hb dX9_told_10 (by decide) ?_
    exact pt_iret S hr hlk hP hS (pt_pr h).1 (congrArg (wC ca ad) (pt_pr h).2) dX9_told_12
  · replace h := pt_iN c1 h
    refine lv_iload_n hx hb dX9_told_4 rfl (lv_at hl 1 rfl) ?_
    refine lv_bipush (v := 10) hx hb dX9_told_5 (by decide) ?_
    refine lv_icmp_le (tgt := 13) hx hb dX9_told_7 (by decide) (fun c2 => ?_) (fun c2 => ?_)
    · replace h := pt_ip c2 h
      refine lv_aload_n hx hb dX9_told_13 rfl (lv_at hl 0 rfl) ?_
      refine gf_X9_5 S hiX9 hK hP hf48 dX9_told_14 ?_
      refine lv_if_ne (tgt := 23) hx hb dX9_told_17 (by decide) (fun c3 => ?_) (fun c3 => ?_)
      · replace h := pt_iN c3 h
        refine lv_iload_n hx hb dX9_told_23 rfl (lv_at hl 1 rfl) ?_
        refine lv_bipush (v := 6) hx hb dX9_told_24 (by decide) ?_
        refine lv_icmp_ge (tgt := 40) hx hb dX9_told_26 (by decide) (fun c4 => ?_) (fun c4 => ?_)
        · replace h := pt_ip c4 h
          refine lv_aload_n hx hb dX9_told_40 rfl (lv_at hl 0 rfl) ?_
          refine gf_X9_4 S hiX9 hK hP hf44 dX9_told_41 ?_
          refine lv_iload_n hx hb dX9_told_44 rfl (lv_at hl 1 rfl) ?_
          replace h := pt_b2s h; obtain ⟨r5, σ5, e5, h⟩ := h
          refine pt_cVi (As := [.int a1]) (rest := []) S (m_X6_tellOfCourse l hDa e5) (cwV 1 S.2.2.2.2 gX9_told_X6_tellOfCourse rfl rfl rfl (by decide +kernel) ⟨Nat.le_of_ble_eq_true rfl, Nat.le_of_ble_eq_true rfl⟩) hK hP hS hZ 5 6 rfl rfl rfl hl.1 rfl (Nat.le_of_ble_eq_true rfl) dX9_told_45 ⟨Nat.zero_le _, Nat.zero_le _⟩ (fun H locs hP hS => ?_)
          exact pt_iret S hr hlk hP hS (pt_pr h).1 (congrArg (wC ca ad) (pt_pr h).2) dX9_told_48
        · replace h := pt_iN c4 h
          refine lv_aload_n hx hb dX9_told_29 rfl (lv_at hl 0 rfl) ?_
          refine gf_X9_4 S hiX9 hK hP hf44 dX9_told_30 ?_
          refine lv_iload_n hx hb dX9_told_33 rfl (lv_at hl 1 rfl) ?_
          replace h := pt_b2s h; obtain ⟨r6, σ6, e6, h⟩ := h
          refine pt_cVi (As := [.int a1]) (rest := []) S (m_X6_tellOfStores l hDa e6) (cwV 1 S.2.2.2.2 gX9_told_X6_tellOfStores rfl rfl rfl (by decide +kernel) ⟨Nat.le_of_ble_eq_true rfl, Nat.le_of_ble_eq_true rfl⟩) hK hP hS hZ 5 6 rfl rfl rfl hl.1 rfl (Nat.le_of_ble_eq_true rfl) dX9_told_34 ⟨Nat.zero_le _, Nat.zero_le _⟩ (fun H locs hP hS => ?_)
          refine lv_goto (tgt := 48) hx hb dX9_told_37 (by decide) ?_
          exact pt_iret S hr hlk hP hS (pt_pr h).1 (congrArg (wC ca ad) (pt_pr h).2) dX9_told_48
      · replace h := pt_ip c3 h
        refine lv_bipush (v := -3) hx hb dX9_told_20 (by decide) ?_
        exact pt_iret S hr hlk hP hS (pt_pr h).1 (congrArg (wC ca ad) (pt_pr h).2) dX9_told_22
    · replace h := pt_iN c2 h
      refine lv_bipush (v := -2) hx hb dX9_told_10 (by decide) ?_
      exact pt_iret S hr hlk hP hS (pt_pr h).1 (congrArg (wC ca ad) (pt_pr h).2) dX9_told_12

def f_X9_waiting (σ : pt_St) (a1 : Int32) : Option (Int32 × pt_St) :=
  if (σ 0 5) = (0 : Int32) then
  some ((-3 : Int32), σ)
  else
  pt_b2 (f_X6_numberInLine σ a1) fun r2 σ2 =>
  some (r2, σ2)
set_option maxHeartbeats 4000000 in
set_option maxRecDepth 100000 in
theorem m_X9_waiting (l : Launch) {D : va_G} {A : Nat → Prop} {ca : Nat → ClassId} {ad : Nat → Nat} {z : Nat × Nat} (hDa : ∀ σ, va_D A (wC ca ad σ)) {σ σ' : pt_St} {r : Int32} {a1 : Int32} (h : f_X9_waiting σ a1 = some (r, σ')) : Met l yX9_waiting wsX9_waiting { frames := 2, cells := 0, slots := 0, locals := 43 } (va_Pc [.ref (ad 0), .int a1] (pt_Pre D (tysC ca) z A (wC ca ad σ))) (pt_Q (some (.int r)) D (wC ca ad σ') A) 0 0 A := by
  refine Met.ofW (cc := cX9_waiting) (maxL := 2) (ret := (some .int)) (by decide) rfl ?_
  intro p e s m args below meth c s₁ B hml hv
  obtain ⟨rfl, hP, hK, hZ⟩ := hv
  have S : CallFix p m c cX9_waiting 2 s ([.ref (ad 0), .int a1] : List Value).toArray wsX9_waiting RX9 := ⟨B.exec, B.bytes, hml, findClass_of_methodNamed B.named, atoms_spec (ws := wsX9_waiting) B.pre⟩
  have hx := S.1
  have hb := S.2.1
  have hr := B.returns
  have hlk := B.notSynchronized
  clear B
  have hiX9 : ∀ w ∈ wsX90, w ∈ wsX9_waiting := fun w h => List.mem_cons_of_mem _ (List.mem_append_left _ (List.mem_append_left _ (List.mem_append_left _ (List.mem_append_right _ h))))
  have hiX6 : ∀ w ∈ wsX60, w ∈ wsX9_waiting := fun w h => List.mem_cons_of_mem _ (List.mem_append_left _ (List.mem_append_left _ (List.mem_append_right _ h)))
  have hiX1 : ∀ w ∈ wsX10, w ∈ wsX9_waiting := fun w h => List.mem_cons_of_mem _ (List.mem_append_left _ (List.mem_append_right _ h))
  have hiX8 : ∀ w ∈ wsX80, w ∈ wsX9_waiting := fun w h => List.mem_cons_of_mem _ (List.mem_append_right _ h)
  have hf48 : (Cond.fieldLink RX9 48 "PackThreads" "begun" "Z").before _ s = true := S.2.2.2.2 _ (List.mem_of_getElem? (i := 1) rfl)
  have hf44 : (Cond.fieldLink RX9 44 "PackThreads" "stream" "LPackThreads$Stream;").before _ s = true := S.2.2.2.2 _ (List.mem_of_getElem? (i := 2) rfl)
  have hS : va_S A s.heap s.heap [] := va_S.rf
  have hl := lv_entry ([.ref (ad 0), .int a1]) (n := 2) (Nat.le_of_ble_eq_true rfl)
  rw [lg_entry_eq]
  generalize (lg_sl ([.ref (ad 0), .int a1]) ++ List.replicate (2 - (lg_sl ([.ref (ad 0), .int a1])).length) Slot.unset).toArray = ls at hl ⊢
  have hl : lv_has ls 2 [(0, .ref (ad 0)), (1, .int a1)] := hl
  unfold f_X9_waiting at h
  refine lv_aload_n hx hb dX9_waiting_0 rfl (lv_at hl 0 rfl) ?_
  refine gf_X9_5 S hiX9 hK hP hf48 dX9_waiting_1 ?_
  refine lv_if_ne (tgt := 10) hx hb dX9_waiting_4 (by decide) (fun c1 => ?_) (fun c1 => ?_)
  · replace h := pt_iN c1 h
    refine lv_aload_n hx hb dX9_waiting_10 rfl (lv_at hl 0 rfl) ?_
    refine gf_X9_4 S hiX9 hK hP hf44 dX9_waiting_11 ?_
    refine lv_iload_n hx hb dX9_waiting_14 rfl (lv_at hl 1 rfl) ?_
    replace h := pt_b2s h; obtain ⟨r2, σ2, e2, h⟩ := h
    refine pt_cVi (As := [.int a1]) (rest := []) S (m_X6_numberInLine l hDa e2) (cwV 1 S.2.2.2.2 gX9_waiting_X6_numberInLine rfl rfl rfl (by decide +kernel) ⟨Nat.le_of_ble_eq_true rfl, Nat.le_of_ble_eq_true rfl⟩) hK hP hS hZ 5 6 rfl rfl rfl hl.1 rfl (Nat.le_of_ble_eq_true rfl) dX9_waiting_15 ⟨Nat.zero_le _, Nat.zero_le _⟩ (fun H locs hP hS => ?_)
    exact pt_iret S hr hlk hP hS (pt_pr h).1 (congrArg (wC ca ad) (pt_pr h).2) dX9_waiting_18
  · replace h := pt_ip c1 h
    refine lv_bipush (v := -3) hx hb dX9_waiting_7 (by decide) ?_
    exact pt_iret S hr hlk hP hS (pt_pr h).1 (congrArg (wC ca ad) (pt_pr h).2) dX9_waiting_9

def f_X9_plain (σ : pt_St) (a1 : Int32) : Option (Int32 × pt_St) :=
  pt_b1 (f_X2_make σ) fun σ1 =>
  pt_b2 (f_X2_byteAt σ1 a1) fun r2 σ2 =>
  some (r2, σ2)
set_option maxHeartbeats 4000000 in
set_option maxRecDepth 100000 in
theorem m_X9_plain (l : Launch) {D : va_G} {A : Nat → Prop} {ca : Nat → ClassId} {ad : Nat → Nat} {z : Nat × Nat} (hDa : ∀ σ, va_D A (wC ca ad σ)) {σ σ' : pt_St} {r : Int32} {a1 : Int32} (h : f_X9_plain σ a1 = some (r, σ')) : Met l yX9_plain wsX9_plain { frames := 5, cells := 0, slots := 0, locals := 120 } (va_Pc [.ref (ad 0), .int a1] (pt_Pre D (tysC ca) z A (wC ca ad σ))) (pt_Q (some (.int r)) D (wC ca ad σ') A) 0 0 A := by
  refine Met.ofW (cc := cX9_plain) (maxL := 2) (ret := (some .int)) (by decide) rfl ?_
  intro p e s m args below meth c s₁ B hml hv
  obtain ⟨rfl, hP, hK, hZ⟩ := hv
  have S : CallFix p m c cX9_plain 2 s ([.ref (ad 0), .int a1] : List Value).toArray wsX9_plain RX9 := ⟨B.exec, B.bytes, hml, findClass_of_methodNamed B.named, atoms_spec (ws := wsX9_plain) B.pre⟩
  have hx := S.1
  have hb := S.2.1
  have hr := B.returns
  have hlk := B.notSynchronized
  clear B
  have hiX9 : ∀ w ∈ wsX90, w ∈ wsX9_plain := fun w h => List.mem_cons_of_mem _ (List.mem_append_left _ (List.mem_append_left _ (List.mem_append_left _ (List.mem_append_right _ h))))
  have hiX2 : ∀ w ∈ wsX20, w ∈ wsX9_plain := fun w h => List.mem_cons_of_mem _ (List.mem_append_left _ (List.mem_append_left _ (List.mem_append_right _ h)))
  have hiX5 : ∀ w ∈ wsX50, w ∈ wsX9_plain := fun w h => List.mem_cons_of_mem _ (List.mem_append_left _ (List.mem_append_right _ h))
  have hiX7 : ∀ w ∈ wsX70, w ∈ wsX9_plain := fun w h => List.mem_cons_of_mem _ (List.mem_append_right _ h)
  have hf35 : (Cond.fieldLink RX9 35 "PackThreads" "packs" "LPackThreads$Packs;").before _ s = true := S.2.2.2.2 _ (List.mem_of_getElem? (i := 1) rfl)
  have hS : va_S A s.heap s.heap [] := va_S.rf
  have hl := lv_entry ([.ref (ad 0), .int a1]) (n := 2) (Nat.le_of_ble_eq_true rfl)
  rw [lg_entry_eq]
  generalize (lg_sl ([.ref (ad 0), .int a1]) ++ List.replicate (2 - (lg_sl ([.ref (ad 0), .int a1])).length) Slot.unset).toArray = ls at hl ⊢
  have hl : lv_has ls 2 [(0, .ref (ad 0)), (1, .int a1)] := hl
  unfold f_X9_plain at h
  refine lv_aload_n hx hb dX9_plain_0 rfl (lv_at hl 0 rfl) ?_
  refine gf_X9_3 S hiX9 hK hP hf35 dX9_plain_1 ?_
  replace h := pt_b1s h; obtain ⟨σ1, e1, h⟩ := h
  refine pt_cVv (As := []) (rest := []) S (m_X2_make l hDa e1) (cwV 0 S.2.2.2.2 gX9_plain_X2_make rfl rfl rfl (by decide +kernel) ⟨Nat.le_of_ble_eq_true rfl, Nat.le_of_ble_eq_true rfl⟩) hK hP hS hZ 4 2 rfl rfl rfl hl.1 rfl (Nat.le_of_ble_eq_true rfl) dX9_plain_4 ⟨Nat.zero_le _, Nat.zero_le _⟩ (fun H locs hP hS => ?_)
  refine lv_aload_n hx hb dX9_plain_7 rfl (lv_at hl 0 rfl) ?_
  refine gf_X9_3 S hiX9 hK hP hf35 dX9_plain_8 ?_
  refine lv_iload_n hx hb dX9_plain_11 rfl (lv_at hl 1 rfl) ?_
  replace h := pt_b2s h; obtain ⟨r2, σ2, e2, h⟩ := h
  refine pt_cVi (As := [.int a1]) (rest := []) S (m_X2_byteAt l hDa e2) (cwV 1 S.2.2.2.2 gX9_plain_X2_byteAt rfl rfl rfl (by decide +kernel) ⟨Nat.le_of_ble_eq_true rfl, Nat.le_of_ble_eq_true rfl⟩) hK hP hS hZ 4 2 rfl rfl rfl hl.1 rfl (Nat.le_of_ble_eq_true rfl) dX9_plain_12 ⟨Nat.zero_le _, Nat.zero_le _⟩ (fun H locs hP hS => ?_)
  exact pt_iret S hr hlk hP hS (pt_pr h).1 (congrArg (wC ca ad) (pt_pr h).2) dX9_plain_15

def f_X9_close (σ : pt_St) : Option (Int32 × pt_St) :=
  if (σ 0 5) = (0 : Int32) then
  some ((-3 : Int32), σ)
  else
  pt_b2 (f_X6_endAll σ) fun r2 σ2 =>
  some (r2, σ2)
set_option maxHeartbeats 4000000 in
set_option maxRecDepth 100000 in
theorem m_X9_close (l : Launch) {D : va_G} {A : Nat → Prop} {ca : Nat → ClassId} {ad : Nat → Nat} {z : Nat × Nat} (hDa : ∀ σ, va_D A (wC ca ad σ)) {σ σ' : pt_St} {r : Int32} (h : f_X9_close σ = some (r, σ')) : Met l yX9_close wsX9_close { frames := 3, cells := 0, slots := 0, locals := 67 } (va_Pc [.ref (ad 0)] (pt_Pre D (tysC ca) z A (wC ca ad σ))) (pt_Q (some (.int r)) D (wC ca ad σ') A) 0 0 A := by
  refine Met.ofW (cc := cX9_close) (maxL := 1) (ret := (some .int)) (by decide) rfl ?_
  intro p e s m args below meth c s₁ B hml hv
  obtain ⟨rfl, hP, hK, hZ⟩ := hv
  have S : CallFix p m c cX9_close 1 s ([.ref (ad 0)] : List Value).toArray wsX9_close RX9 := ⟨B.exec, B.bytes, hml, findClass_of_methodNamed B.named, atoms_spec (ws := wsX9_close) B.pre⟩
  have hx := S.1
  have hb := S.2.1
  have hr := B.returns
  have hlk := B.notSynchronized
  clear B
  have hiX9 : ∀ w ∈ wsX90, w ∈ wsX9_close := fun w h => List.mem_cons_of_mem _ (List.mem_append_left _ (List.mem_append_left _ (List.mem_append_left _ (List.mem_append_right _ h))))
  have hiX6 : ∀ w ∈ wsX60, w ∈ wsX9_close := fun w h => List.mem_cons_of_mem _ (List.mem_append_left _ (List.mem_append_left _ (List.mem_append_right _ h)))
  have hiX1 : ∀ w ∈ wsX10, w ∈ wsX9_close := fun w h => List.mem_cons_of_mem _ (List.mem_append_left _ (List.mem_append_right _ h))
  have hiX8 : ∀ w ∈ wsX80, w ∈ wsX9_close := fun w h => List.mem_cons_of_mem _ (List.mem_append_right _ h)
  have hf48 : (Cond.fieldLink RX9 48 "PackThreads" "begun" "Z").before _ s = true := S.2.2.2.2 _ (List.mem_of_getElem? (i := 1) rfl)
  have hf44 : (Cond.fieldLink RX9 44 "PackThreads" "stream" "LPackThreads$Stream;").before _ s = true := S.2.2.2.2 _ (List.mem_of_getElem? (i := 2) rfl)
  have hS : va_S A s.heap s.heap [] := va_S.rf
  have hl := lv_entry ([.ref (ad 0)]) (n := 1) (Nat.le_of_ble_eq_true rfl)
  rw [lg_entry_eq]
  generalize (lg_sl ([.ref (ad 0)]) ++ List.replicate (1 - (lg_sl ([.ref (ad 0)])).length) Slot.unset).toArray = ls at hl ⊢
  have hl : lv_has ls 1 [(0, .ref (ad 0))] := hl
  unfold f_X9_close at h
  refine lv_aload_n hx hb dX9_close_0 rfl (lv_at hl 0 rfl) ?_
  refine gf_X9_5 S hiX9 hK hP hf48 dX9_close_1 ?_
  refine lv_if_ne (tgt := 10) hx hb dX9_close_4 (by decide) (fun c1 => ?_) (fun c1 => ?_)
  · replace h := pt_iN c1 h
    refine lv_aload_n hx hb dX9_close_10 rfl (lv_at hl 0 rfl) ?_
    refine gf_X9_4 S hiX9 hK hP hf44 dX9_close_11 ?_
    replace h := pt_b2s h; obtain ⟨r2, σ2, e2, h⟩ := h
    refine pt_cVi (As := []) (rest := []) S (m_X6_endAll l hDa e2) (cwV 0 S.2.2.2.2 gX9_close_X6_endAll rfl rfl rfl (by decide +kernel) ⟨Nat.le_of_ble_eq_true rfl, Nat.le_of_ble_eq_true rfl⟩) hK hP hS hZ 5 6 rfl rfl rfl hl.1 rfl (Nat.le_of_ble_eq_true rfl) dX9_close_14 ⟨Nat.zero_le _, Nat.zero_le _⟩ (fun H locs hP hS => ?_)
    exact pt_iret S hr hlk hP hS (pt_pr h).1 (congrArg (wC ca ad) (pt_pr h).2) dX9_close_17
  · replace h := pt_ip c1 h
    refine lv_bipush (v := -3) hx hb dX9_close_7 (by decide) ?_
    exact pt_iret S hr hlk hP hS (pt_pr h).1 (congrArg (wC ca ad) (pt_pr h).2) dX9_close_9

def f_X9_clear (σ : pt_St) : Option (Int32 × pt_St) :=
  pt_b2 (f_X7_length σ) fun r1 σ1 =>
  pt_b1 (f_X7_empty σ1) fun σ2 =>
  pt_b1 (f_X3_removeAll σ2) fun σ3 =>
  pt_b1 (f_X2_forget σ3) fun σ4 =>
  pt_do (pt_put σ4 0 5 (0 : Int32)) fun σ5 =>
  some (r1, σ5)
set_option maxHeartbeats 4000000 in
set_option maxRecDepth 100000 in
theorem m_X9_clear (l : Launch) {D : va_G} {A : Nat → Prop} {ca : Nat → ClassId} {ad : Nat → Nat} {z : Nat × Nat} (hDa : ∀ σ, va_D A (wC ca ad σ)) {σ σ' : pt_St} {r : Int32} (h : f_X9_clear σ = some (r, σ')) : Met l yX9_clear wsX9_clear { frames := 1, cells := 0, slots := 0, locals := 21 } (va_Pc [.ref (ad 0)] (pt_Pre D (tysC ca) z A (wC ca ad σ))) (pt_Q (some (.int r)) D (wC ca ad σ') A) 0 0 A := by
  refine Met.ofW (cc := cX9_clear) (maxL := 2) (ret := (some .int)) (by decide) rfl ?_
  intro p e s m args below meth c s₁ B hml hv
  obtain ⟨rfl, hP, hK, hZ⟩ := hv
  have S : CallFix p m c cX9_clear 2 s ([.ref (ad 0)] : List Value).toArray wsX9_clear RX9 := ⟨B.exec, B.bytes, hml, findClass_of_methodNamed B.named, atoms_spec (ws := wsX9_clear) B.pre⟩
  have hx := S.1
  have hb := S.2.1
  have hr := B.returns
  have hlk := B.notSynchronized
  clear B
  have hiX9 : ∀ w ∈ wsX90, w ∈ wsX9_clear := fun w h => List.mem_cons_of_mem _ (List.mem_append_left _ (List.mem_append_left _ (List.mem_append_left _ (List.mem_append_right _ h))))
  have hiX7 : ∀ w ∈ wsX70, w ∈ wsX9_clear := fun w h => List.mem_cons_of_mem _ (List.mem_append_left _ (List.mem_append_left _ (List.mem_append_right _ h)))
  have hiX3 : ∀ w ∈ wsX30, w ∈ wsX9_clear := fun w h => List.mem_cons_of_mem _ (List.mem_append_left _ (List.mem_append_right _ h))
  have hiX2 : ∀ w ∈ wsX20, w ∈ wsX9_clear := fun w h => List.mem_cons_of_mem _ (List.mem_append_right _ h)
  have hf12 : (Cond.fieldLink RX9 12 "PackThreads" "text" "LPackThreads$Text;").before _ s = true := S.2.2.2.2 _ (List.mem_of_getElem? (i := 1) rfl)
  have hf26 : (Cond.fieldLink RX9 26 "PackThreads" "plants" "LPackThreads$Plants;").before _ s = true := S.2.2.2.2 _ (List.mem_of_getElem? (i := 2) rfl)
  have hf35 : (Cond.fieldLink RX9 35 "PackThreads" "packs" "LPackThreads$Packs;").before _ s = true := S.2.2.2.2 _ (List.mem_of_getElem? (i := 3) rfl)
  have hf48 : (Cond.fieldLink RX9 48 "PackThreads" "begun" "Z").before _ s = true := S.2.2.2.2 _ (List.mem_of_getElem? (i := 4) rfl)
  have hS : va_S A s.heap s.heap [] := va_S.rf
  have hl := lv_entry ([.ref (ad 0)]) (n := 2) (Nat.le_of_ble_eq_true rfl)
  rw [lg_entry_eq]
  generalize (lg_sl ([.ref (ad 0)]) ++ List.replicate (2 - (lg_sl ([.ref (ad 0)])).length) Slot.unset).toArray = ls at hl ⊢
  have hl : lv_has ls 2 [(0, .ref (ad 0))] := hl
  unfold f_X9_clear at h
  refine lv_aload_n hx hb dX9_clear_0 rfl (lv_at hl 0 rfl) ?_
  refine gf_X9_0 S hiX9 hK hP hf12 dX9_clear_1 ?_
  replace h := pt_b2s h; obtain ⟨r1, σ1, e1, h⟩ := h
  refine pt_cVi (As := []) (rest := []) S (m_X7_length l hDa e1) (cwV 0 S.2.2.2.2 gX9_clear_X7_length rfl rfl rfl (by decide +kernel) ⟨Nat.le_of_ble_eq_true rfl, Nat.le_of_ble_eq_true rfl⟩) hK hP hS hZ 1 7 rfl rfl rfl hl.1 rfl (Nat.le_of_ble_eq_true rfl) dX9_clear_4 ⟨Nat.zero_le _, Nat.zero_le _⟩ (fun H locs hP hS => ?_)
  refine lv_istore_n (lv' := [(1, .int r1), (0, .ref (ad 0))]) hx hb dX9_clear_7 rfl hl (by decide) rfl (fun ls hl => ?_)
  refine lv_aload_n hx hb dX9_clear_8 rfl (lv_at hl 1 rfl) ?_
  refine gf_X9_0 S hiX9 hK hP hf12 dX9_clear_9 ?_
  replace h := pt_b1s h; obtain ⟨σ2, e2, h⟩ := h
  refine pt_cVv (As := []) (rest := []) S (m_X7_empty l hDa e2) (cwV 0 S.2.2.2.2 gX9_clear_X7_empty rfl rfl rfl (by decide +kernel) ⟨Nat.le_of_ble_eq_true rfl, Nat.le_of_ble_eq_true rfl⟩) hK hP hS hZ 1 7 rfl rfl rfl hl.1 rfl (Nat.le_of_ble_eq_true rfl) dX9_clear_12 ⟨Nat.zero_le _, Nat.zero_le _⟩ (fun H locs hP hS => ?_)
  refine lv_aload_n hx hb dX9_clear_15 rfl (lv_at hl 1 rfl) ?_
  refine gf_X9_2 S hiX9 hK hP hf26 dX9_clear_16 ?_
  replace h := pt_b1s h; obtain ⟨σ3, e3, h⟩ := h
  refine pt_cVv (As := []) (rest := []) S (m_X3_removeAll l hDa e3) (cwV 0 S.2.2.2.2 gX9_clear_X3_removeAll rfl rfl rfl (by decide +kernel) ⟨Nat.le_of_ble_eq_true rfl, Nat.le_of_ble_eq_true rfl⟩) hK hP hS hZ 3 3 rfl rfl rfl hl.1 rfl (Nat.le_of_ble_eq_true rfl) dX9_clear_19 ⟨Nat.zero_le _, Nat.zero_le _⟩ (fun H locs hP hS => ?_)
  refine lv_aload_n hx hb dX9_clear_22 rfl (lv_at hl 1 rfl) ?_
  refine gf_X9_3 S hiX9 hK hP hf35 dX9_clear_23 ?_
  replace h := pt_b1s h; obtain ⟨σ4, e4, h⟩ := h
  refine pt_cVv (As := []) (rest := []) S (m_X2_forget l hDa e4) (cwV 0 S.2.2.2.2 gX9_clear_X2_forget rfl rfl rfl (by decide +kernel) ⟨Nat.le_of_ble_eq_true rfl, Nat.le_of_ble_eq_true rfl⟩) hK hP hS hZ 4 2 rfl rfl rfl hl.1 rfl (Nat.le_of_ble_eq_true rfl) dX9_clear_26 ⟨Nat.zero_le _, Nat.zero_le _⟩ (fun H locs hP hS => ?_)
  refine lv_aload_n hx hb dX9_clear_29 rfl (lv_at hl 1 rfl) ?_
  refine lv_iconst (v := 0) hx hb dX9_clear_30 (by decide) ?_
  replace h := pt_dos h; obtain ⟨σ5, e5, h⟩ := h
  refine pf_X9_5 S hiX9 hK hP hDa hS hf48 (Or.inl rfl) e5 dX9_clear_31 (fun H locs hP hS => ?_)
  refine lv_iload_n hx hb dX9_clear_34 rfl (lv_at hl 0 rfl) ?_
  exact pt_iret S hr hlk hP hS (pt_pr h).1 (congrArg (wC ca ad) (pt_pr h).2) dX9_clear_35
