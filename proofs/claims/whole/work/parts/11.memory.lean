def f_X1_fill (σ : pt_St) (a1 : Int32) : Option pt_St :=
  pt_do (pt_put σ 6 2 a1) fun σ1 =>
  pt_do (pt_put σ1 6 1 (0 : Int32)) fun σ2 =>
  some σ2
set_option maxHeartbeats 4000000 in
set_option maxRecDepth 100000 in
theorem m_X1_fill (l : Launch) {D : va_G} {A : Nat → Prop} {ca : Nat → ClassId} {ad : Nat → Nat} {z : Nat × Nat} (hDa : ∀ σ, va_D A (wC ca ad σ)) {σ σ' : pt_St} {a1 : Int32} (h : f_X1_fill σ a1 = some σ') : Met l yX1_fill wsX1_fill { frames := 0, cells := 0, slots := 0, locals := 0 } (va_Pc [.ref (ad 6), .int a1] (pt_Pre D (tysC ca) z A (wC ca ad σ))) (pt_Q none D (wC ca ad σ') A) 0 0 A := by
  refine Met.ofW (cc := cX1_fill) (maxL := 2) (ret := none) (by decide) rfl ?_
  intro p e s m args below meth c s₁ B hml hv
  obtain ⟨rfl, hP, hK, hZ⟩ := hv
  have S : CallFix p m c cX1_fill 2 s ([.ref (ad 6), .int a1] : List Value).toArray wsX1_fill RX1 := ⟨B.exec, B.bytes, hml, findClass_of_methodNamed B.named, atoms_spec (ws := wsX1_fill) B.pre⟩
  have hx := S.1
  have hb := S.2.1
  have hr := B.returns
  have hlk := B.notSynchronized
  clear B
  have hiX1 : ∀ w ∈ wsX10, w ∈ wsX1_fill := fun w h => List.mem_cons_of_mem _ (List.mem_append_right _ h)
  have hf17 : (Cond.fieldLink RX1 17 "PackThreads$Memory" "left" "I").before _ s = true := S.2.2.2.2 _ (List.mem_of_getElem? (i := 1) rfl)
  have hf21 : (Cond.fieldLink RX1 21 "PackThreads$Memory" "inLine" "I").before _ s = true := S.2.2.2.2 _ (List.mem_of_getElem? (i := 2) rfl)
  have hS : va_S A s.heap s.heap [] := va_S.rf
  have hl := lv_entry ([.ref (ad 6), .int a1]) (n := 2) (Nat.le_of_ble_eq_true rfl)
  rw [lg_entry_eq]
  generalize (lg_sl ([.ref (ad 6), .int a1]) ++ List.replicate (2 - (lg_sl ([.ref (ad 6), .int a1])).length) Slot.unset).toArray = ls at hl ⊢
  have hl : lv_has ls 2 [(0, .ref (ad 6)), (1, .int a1)] := hl
  unfold f_X1_fill at h
  refine lv_aload_n hx hb dX1_fill_0 rfl (lv_at hl 0 rfl) ?_
  refine lv_iload_n hx hb dX1_fill_1 rfl (lv_at hl 1 rfl) ?_
  replace h := pt_dos h; obtain ⟨σ1, e1, h⟩ := h
  refine pf_X1_2 S hiX1 hK hP hDa hS hf17 e1 dX1_fill_2 (fun H locs hP hS => ?_)
  refine lv_aload_n hx hb dX1_fill_5 rfl (lv_at hl 0 rfl) ?_
  refine lv_iconst (v := 0) hx hb dX1_fill_6 (by decide) ?_
  replace h := pt_dos h; obtain ⟨σ2, e2, h⟩ := h
  refine pf_X1_1 S hiX1 hK hP hDa hS hf21 e2 dX1_fill_7 (fun H locs hP hS => ?_)
  exact pt_vret S hr hlk hP hS (congrArg (wC ca ad) (pt_so h)) dX1_fill_10

def f_X1_ask (σ : pt_St) (a1 : Int32) : Option pt_St :=
  if (σ 6 1) = (0 : Int32) then
  if (σ 6 2) < (σ (9 + a1.toNatClampNeg) 4) then
  if (σ 6 1) < (0 : Int32) then
  some σ
  else
  if (6 : Int32) ≤ (σ 6 1) then
  some σ
  else
  if pt_in (σ 6 1) 6 then
  pt_do (pt_put σ 23 (σ 6 1).toNatClampNeg a1) fun σ6 =>
  pt_do (pt_put σ6 6 1 ((σ6 6 1) + (1 : Int32))) fun σ7 =>
  pt_b1 (f_X8_waitInLine σ7 a1) fun σ8 =>
  some σ8
  else none
  else
  pt_do (pt_put σ 6 2 ((σ 6 2) - (σ (9 + a1.toNatClampNeg) 4))) fun σ9 =>
  pt_b1 (f_X8_startWork σ9 a1) fun σ10 =>
  some σ10
  else
  if (σ 6 1) < (0 : Int32) then
  some σ
  else
  if (6 : Int32) ≤ (σ 6 1) then
  some σ
  else
  if pt_in (σ 6 1) 6 then
  pt_do (pt_put σ 23 (σ 6 1).toNatClampNeg a1) fun σ14 =>
  pt_do (pt_put σ14 6 1 ((σ14 6 1) + (1 : Int32))) fun σ15 =>
  pt_b1 (f_X8_waitInLine σ15 a1) fun σ16 =>
  some σ16
  else none
set_option maxHeartbeats 4000000 in
set_option maxRecDepth 100000 in
theorem m_X1_ask (l : Launch) {D : va_G} {A : Nat → Prop} {ca : Nat → ClassId} {ad : Nat → Nat} {z : Nat × Nat} (hDa : ∀ σ, va_D A (wC ca ad σ)) {σ σ' : pt_St} {a1 : Int32} (ha1 : pt_iw a1) (h : f_X1_ask σ a1 = some σ') : Met l yX1_ask wsX1_ask { frames := 1, cells := 0, slots := 0, locals := 20 } (va_Pc [.ref (ad 6), .ref (ad (9 + a1.toNatClampNeg))] (pt_Pre D (tysC ca) z A (wC ca ad σ))) (pt_Q none D (wC ca ad σ') A) 0 0 A := by
  refine Met.ofW (cc := cX1_ask) (maxL := 2) (ret := none) (by decide) rfl ?_
  intro p e s m args below meth c s₁ B hml hv
  obtain ⟨rfl, hP, hK, hZ⟩ := hv
  have S : CallFix p m c cX1_ask 2 s ([.ref (ad 6), .ref (ad (9 + a1.toNatClampNeg))] : List Value).toArray wsX1_ask RX1 := ⟨B.exec, B.bytes, hml, findClass_of_methodNamed B.named, atoms_spec (ws := wsX1_ask) B.pre⟩
  have hx := S.1
  have hb := S.2.1
  have hr := B.returns
  have hlk := B.notSynchronized
  clear B
  have hiX1 : ∀ w ∈ wsX10, w ∈ wsX1_ask := fun w h => List.mem_cons_of_mem _ (List.mem_append_left _ (List.mem_append_right _ h))
  have hiX8 : ∀ w ∈ wsX80, w ∈ wsX1_ask := fun w h => List.mem_cons_of_mem _ (List.mem_append_right _ h)
  have hf21 : (Cond.fieldLink RX1 21 "PackThreads$Memory" "inLine" "I").before _ s = true := S.2.2.2.2 _ (List.mem_of_getElem? (i := 1) rfl)
  have hf17 : (Cond.fieldLink RX1 17 "PackThreads$Memory" "left" "I").before _ s = true := S.2.2.2.2 _ (List.mem_of_getElem? (i := 2) rfl)
  have hf11 : (Cond.fieldLink RX1 11 "PackThreads$Memory" "line" "[LPackThreads$Worker;").before _ s = true := S.2.2.2.2 _ (List.mem_of_getElem? (i := 3) rfl)
  have hS : va_S A s.heap s.heap [] := va_S.rf
  have hl := lv_entry ([.ref (ad 6), .ref (ad (9 + a1.toNatClampNeg))]) (n := 2) (Nat.le_of_ble_eq_true rfl)
  rw [lg_entry_eq]
  generalize (lg_sl ([.ref (ad 6), .ref (ad (9 + a1.toNatClampNeg))]) ++ List.replicate (2 - (lg_sl ([.ref (ad 6), .ref (ad (9 + a1.toNatClampNeg))])).length) Slot.unset).toArray = ls at hl ⊢
  have hl : lv_has ls 2 [(0, .ref (ad 6)), (1, .ref (ad (9 + a1.toNatClampNeg)))] := hl
  unfold f_X1_ask at h
  refine lv_aload_n hx hb dX1_ask_0 rfl (lv_at hl 0 rfl) ?_
  refine gf_X1_1 S hiX1 hK hP hf21 dX1_ask_1 ?_
  refine lv_if_ne (tgt := 38) hx hb dX1_ask_4 (by decide) (fun c1 => ?_) (fun c1 => ?_)
  · replace h := pt_iN c1 h
    refine lv_aload_n hx hb dX1_ask_38 rfl (lv_at hl 0 rfl) ?_
    refine gf_X1_1 S hiX1 hK hP hf21 dX1_ask_39 ?_
    refine lv_if_lt (tgt := 81) hx hb dX1_ask_42 (by decide) (fun c11 => ?_) (fun c11 => ?_)
    · replace h := pt_ip c11 h
      exact pt_vret S hr hlk hP hS (congrArg (wC ca ad) (pt_so h)) dX1_ask_81
    · replace h := pt_iN c11 h
      refine lv_aload_n hx hb dX1_ask_45 rfl (lv_at hl 0 rfl) ?_
      refine gf_X1_1 S hiX1 hK hP hf21 dX1_ask_46 ?_
      refine lv_aload_n hx hb dX1_ask_49 rfl (lv_at hl 0 rfl) ?_
      refine gf_X1_0 S hiX1 hK hP hf11 dX1_ask_50 ?_
      refine ln_C_23 S hK hP dX1_ask_53 ?_
      refine lv_icmp_ge (tgt := 81) hx hb dX1_ask_54 (by decide) (fun c12 => ?_) (fun c12 => ?_)
      · replace h := pt_ip c12 h
        exact pt_vret S hr hlk hP hS (congrArg (wC ca ad) (pt_so h)) dX1_ask_81
      · replace h := pt_iN c12 h
        refine lv_aload_n hx hb dX1_ask_57 rfl (lv_at hl 0 rfl) ?_
        refine gf_X1_0 S hiX1 hK hP hf11 dX1_ask_58 ?_
        refine lv_aload_n hx hb dX1_ask_61 rfl (lv_at hl 0 rfl) ?_
        refine gf_X1_1 S hiX1 hK hP hf21 dX1_ask_62 ?_
        refine lv_aload_n hx hb dX1_ask_65 rfl (lv_at hl 1 rfl) ?_
        replace h := pt_gd h; obtain ⟨g13, h⟩ := h
        replace h := pt_dos h; obtain ⟨σ14, e14, h⟩ := h
        refine pt_asW ha1 ?_
        refine st_C_23 S hK hP hDa hS g13 e14 dX1_ask_66 (fun H locs hP hS => ?_)
        refine lv_aload_n hx hb dX1_ask_67 rfl (lv_at hl 0 rfl) ?_
        refine lv_dup hx hb dX1_ask_68 rfl ?_
        refine gf_X1_1 S hiX1 hK hP hf21 dX1_ask_69 ?_
        refine lv_iconst (v := 1) hx hb dX1_ask_72 (by decide) ?_
        refine lv_iadd hx hb dX1_ask_73 ?_
        replace h := pt_dos h; obtain ⟨σ15, e15, h⟩ := h
        refine pf_X1_1 S hiX1 hK hP hDa hS hf21 e15 dX1_ask_74 (fun H locs hP hS => ?_)
        refine lv_aload_n hx hb dX1_ask_77 rfl (lv_at hl 1 rfl) ?_
        replace h := pt_b1s h; obtain ⟨σ16, e16, h⟩ := h
        refine pt_cVv (As := []) (rest := []) S (m_X8_waitInLine l hDa ha1 e16) (cwV 0 S.2.2.2.2 gX1_ask_X8_waitInLine rfl rfl rfl (by decide +kernel) ⟨Nat.le_of_ble_eq_true rfl, Nat.le_of_ble_eq_true rfl⟩) hK hP hS hZ (9 + a1.toNatClampNeg) 8 (pt_w8 (pt_in_lt ha1) ca ad σ15) rfl rfl hl.1 rfl (Nat.le_of_ble_eq_true rfl) dX1_ask_78 ⟨Nat.zero_le _, Nat.zero_le _⟩ (fun H locs hP hS => ?_)
        exact pt_vret S hr hlk hP hS (congrArg (wC ca ad) (pt_so h)) dX1_ask_81
  · replace h := pt_ip c1 h
    refine lv_aload_n hx hb dX1_ask_7 rfl (lv_at hl 1 rfl) ?_
    refine gfN_X8_4 (pt_in_lt ha1) S hiX8 hK hP (List.mem_of_getElem? (i := 9) rfl) dX1_ask_8 ?_
    refine lv_aload_n hx hb dX1_ask_11 rfl (lv_at hl 0 rfl) ?_
    refine gf_X1_2 S hiX1 hK hP hf17 dX1_ask_12 ?_
    refine lv_icmp_gt (tgt := 38) hx hb dX1_ask_15 (by decide) (fun c2 => ?_) (fun c2 => ?_)
    · replace h := pt_ip c2 h
      refine lv_aload_n hx hb dX1_ask_38 rfl (lv_at hl 0 rfl) ?_
      refine gf_X1_1 S hiX1 hK hP hf21 dX1_ask_39 ?_
      refine lv_if_lt (tgt := 81) hx hb dX1_ask_42 (by decide) (fun c3 => ?_) (fun c3 => ?_)
      · replace h := pt_ip c3 h
        exact pt_vret S hr hlk hP hS (congrArg (wC ca ad) (pt_so h)) dX1_ask_81
      · replace h := pt_iN c3 h
        refine lv_aload_n hx hb dX1_ask_45 rfl (lv_at hl 0 rfl) ?_
        refine gf_X1_1 S hiX1 hK hP hf21 dX1_ask_46 ?_
        refine lv_aload_n hx hb dX1_ask_49 rfl (lv_at hl 0 rfl) ?_
        refine gf_X1_0 S hiX1 hK hP hf11 dX1_ask_50 ?_
        refine ln_C_23 S hK hP dX1_ask_53 ?_
        refine lv_icmp_ge (tgt := 81) hx hb dX1_ask_54 (by decide) (fun c4 => ?_) (fun c4 => ?_)
        · replace h := pt_ip c4 h
          exact pt_vret S hr hlk hP hS (congrArg (wC ca ad) (pt_so h)) dX1_ask_81
        · replace h := pt_iN c4 h
          refine lv_aload_n hx hb dX1_ask_57 rfl (lv_at hl 0 rfl) ?_
          refine gf_X1_0 S hiX1 hK hP hf11 dX1_ask_58 ?_
          refine lv_aload_n hx hb dX1_ask_61 rfl (lv_at hl 0 rfl) ?_
          refine gf_X1_1 S hiX1 hK hP hf21 dX1_ask_62 ?_
          refine lv_aload_n hx hb dX1_ask_65 rfl (lv_at hl 1 rfl) ?_
          replace h := pt_gd h; obtain ⟨g5, h⟩ := h
          replace h := pt_dos h; obtain ⟨σ6, e6, h⟩ := h
          refine pt_asW ha1 ?_
          refine st_C_23 S hK hP hDa hS g5 e6 dX1_ask_66 (fun H locs hP hS => ?_)
          refine lv_aload_n hx hb dX1_ask_67 rfl (lv_at hl 0 rfl) ?_
          refine lv_dup hx hb dX1_ask_68 rfl ?_
          refine gf_X1_1 S hiX1 hK hP hf21 dX1_ask_69 ?_
          refine lv_iconst (v := 1) hx hb dX1_ask_72 (by decide) ?_
          refine lv_iadd hx hb dX1_ask_73 ?_
          replace h := pt_dos h; obtain ⟨σ7, e7, h⟩ := h
          refine pf_X1_1 S hiX1 hK hP hDa hS hf21 e7 dX1_ask_74 (fun H locs hP hS => ?_)
          refine lv_aload_n hx hb dX1_ask_77 rfl (lv_at hl 1 rfl) ?_
          replace h := pt_b1s h; obtain ⟨σ8, e8, h⟩ := h
          refine pt_cVv (As := []) (rest := []) S (m_X8_waitInLine l hDa ha1 e8) (cwV 0 S.2.2.2.2 gX1_ask_X8_waitInLine rfl rfl rfl (by decide +kernel) ⟨Nat.le_of_ble_eq_true rfl, Nat.le_of_ble_eq_true rfl⟩) hK hP hS hZ (9 + a1.toNatClampNeg) 8 (pt_w8 (pt_in_lt ha1) ca ad σ7) rfl rfl hl.1 rfl (Nat.le_of_ble_eq_true rfl) dX1_ask_78 ⟨Nat.zero_le _, Nat.zero_le _⟩ (fun H locs hP hS => ?_)
          exact pt_vret S hr hlk hP hS (congrArg (wC ca ad) (pt_so h)) dX1_ask_81
    · replace h := pt_iN c2 h
      refine lv_aload_n hx hb dX1_ask_18 rfl (lv_at hl 0 rfl) ?_
      refine lv_dup hx hb dX1_ask_19 rfl ?_
      refine gf_X1_2 S hiX1 hK hP hf17 dX1_ask_20 ?_
      refine lv_aload_n hx hb dX1_ask_23 rfl (lv_at hl 1 rfl) ?_
      refine gfN_X8_4 (pt_in_lt ha1) S hiX8 hK hP (List.mem_of_getElem? (i := 9) rfl) dX1_ask_24 ?_
      refine lv_isub hx hb dX1_ask_27 ?_
      replace h := pt_dos h; obtain ⟨σ9, e9, h⟩ := h
      refine pf_X1_2 S hiX1 hK hP hDa hS hf17 e9 dX1_ask_28 (fun H locs hP hS => ?_)
      refine lv_aload_n hx hb dX1_ask_31 rfl (lv_at hl 1 rfl) ?_
      replace h := pt_b1s h; obtain ⟨σ10, e10, h⟩ := h
      refine pt_cVv (As := []) (rest := []) S (m_X8_startWork l hDa ha1 e10) (cwV 0 S.2.2.2.2 gX1_ask_X8_startWork rfl rfl rfl (by decide +kernel) ⟨Nat.le_of_ble_eq_true rfl, Nat.le_of_ble_eq_true rfl⟩) hK hP hS hZ (9 + a1.toNatClampNeg) 8 (pt_w8 (pt_in_lt ha1) ca ad σ9) rfl rfl hl.1 rfl (Nat.le_of_ble_eq_true rfl) dX1_ask_32 ⟨Nat.zero_le _, Nat.zero_le _⟩ (fun H locs hP hS => ?_)
      refine lv_goto (tgt := 81) hx hb dX1_ask_35 (by decide) ?_
      exact pt_vret S hr hlk hP hS (congrArg (wC ca ad) (pt_so h)) dX1_ask_81

def lp_X1_dropFirst_2 (k : pt_St → Int32 → Option pt_St) : Nat → pt_St → Int32 → Option pt_St
  | 0, _, _ => none
  | n + 1, σ, x1 =>
    if (σ 6 1) ≤ x1 then
    k σ x1
    else
    if (6 : Int32) ≤ x1 then
    k σ x1
    else
    if pt_in x1 6 then
    if pt_in (x1 - (1 : Int32)) 6 then
    pt_do (pt_put σ 23 (x1 - (1 : Int32)).toNatClampNeg (σ 23 x1.toNatClampNeg)) fun σ3005 =>
    lp_X1_dropFirst_2 k n σ3005 (x1 + (1 : Int32))
    else none
    else none
def kx_X1_dropFirst_2 (σ : pt_St) (x1 : Int32) : Option pt_St :=
  pt_do (pt_put σ 6 1 ((σ 6 1) - (1 : Int32))) fun σ3501 =>
  some σ3501
def f_X1_dropFirst (σ : pt_St) : Option pt_St :=
  lp_X1_dropFirst_2 (kx_X1_dropFirst_2) pt_F σ (1 : Int32)
set_option maxHeartbeats 4000000 in
set_option maxRecDepth 100000 in
theorem m_X1_dropFirst (l : Launch) {D : va_G} {A : Nat → Prop} {ca : Nat → ClassId} {ad : Nat → Nat} {z : Nat × Nat} (hDa : ∀ σ, va_D A (wC ca ad σ)) {σ σ' : pt_St} (h : f_X1_dropFirst σ = some σ') : Met l yX1_dropFirst wsX1_dropFirst { frames := 0, cells := 0, slots := 0, locals := 0 } (va_Pc [.ref (ad 6)] (pt_Pre D (tysC ca) z A (wC ca ad σ))) (pt_Q none D (wC ca ad σ') A) 0 0 A := by
  refine Met.ofW (cc := cX1_dropFirst) (maxL := 2) (ret := none) (by decide) rfl ?_
  intro p e s m args below meth c s₁ B hml hv
  obtain ⟨rfl, hP, hK, hZ⟩ := hv
  have S : CallFix p m c cX1_dropFirst 2 s ([.ref (ad 6)] : List Value).toArray wsX1_dropFirst RX1 := ⟨B.exec, B.bytes, hml, findClass_of_methodNamed B.named, atoms_spec (ws := wsX1_dropFirst) B.pre⟩
  have hx := S.1
  have hb := S.2.1
  have hr := B.returns
  have hlk := B.notSynchronized
  clear B
  have hiX1 : ∀ w ∈ wsX10, w ∈ wsX1_dropFirst := fun w h => List.mem_cons_of_mem _ (List.mem_append_right _ h)
  have hf21 : (Cond.fieldLink RX1 21 "PackThreads$Memory" "inLine" "I").before _ s = true := S.2.2.2.2 _ (List.mem_of_getElem? (i := 1) rfl)
  have hf11 : (Cond.fieldLink RX1 11 "PackThreads$Memory" "line" "[LPackThreads$Worker;").before _ s = true := S.2.2.2.2 _ (List.mem_of_getElem? (i := 2) rfl)
  have hS : va_S A s.heap s.heap [] := va_S.rf
  have hl := lv_entry ([.ref (ad 6)]) (n := 2) (Nat.le_of_ble_eq_true rfl)
  rw [lg_entry_eq]
  generalize (lg_sl ([.ref (ad 6)]) ++ List.replicate (2 - (lg_sl ([.ref (ad 6)])).length) Slot.unset).toArray = ls at hl ⊢
  have hl : lv_has ls 2 [(0, .ref (ad 6))] := hl
  unfold f_X1_dropFirst at h
  refine lv_iconst (v := 1) hx hb dX1_dropFirst_0 (by decide) ?_
  refine lv_istore_n (lv' := [(1, .int (1 : Int32)), (0, .ref (ad 6))]) hx hb dX1_dropFirst_1 rfl hl (by decide) rfl (fun ls hl => ?_)
  have X2 : ∀ (σ : pt_St) (x1 : Int32), kx_X1_dropFirst_2 σ x1 = some σ' → ∀ (H : Heap) (locs : List Loc) (ls : Array Slot), va_P D vwCl (wC ca ad σ) H → va_S A s.heap H locs → lv_has ls 2 [(0, .ref (ad 6)), (1, .int x1)] → W p l e (headSpec wsX1_dropFirst { frames := 0, cells := 0, slots := 0, locals := 0 }).room s m ([.ref (ad 6)] : List Value).toArray below meth c H locs 0 0 (MQ below (pt_Q none D (wC ca ad σ') A) ([.ref (ad 6)] : List Value).toArray s 0 0 A) (F0 m 39 ls []) := by
    intro σ x1 h H locs ls hP hS hl
    unfold kx_X1_dropFirst_2 at h
    refine lv_aload_n hx hb dX1_dropFirst_39 rfl (lv_at hl 0 rfl) ?_
    refine lv_dup hx hb dX1_dropFirst_40 rfl ?_
    refine gf_X1_1 S hiX1 hK hP hf21 dX1_dropFirst_41 ?_
    refine lv_iconst (v := 1) hx hb dX1_dropFirst_44 (by decide) ?_
    refine lv_isub hx hb dX1_dropFirst_45 ?_
    replace h := pt_dos h; obtain ⟨σ3501, e3501, h⟩ := h
    refine pf_X1_1 S hiX1 hK hP hDa hS hf21 e3501 dX1_dropFirst_46 (fun H locs hP hS => ?_)
    exact pt_vret S hr hlk hP hS (congrArg (wC ca ad) (pt_so h)) dX1_dropFirst_49
  have L2 : ∀ (n : Nat) (σ : pt_St) (x1 : Int32),  lp_X1_dropFirst_2 (kx_X1_dropFirst_2) n σ x1 = some σ' → ∀ (H : Heap) (locs : List Loc) (ls : Array Slot), va_P D vwCl (wC ca ad σ) H → va_S A s.heap H locs → lv_has ls 2 [(0, .ref (ad 6)), (1, .int x1)] → W p l e (headSpec wsX1_dropFirst { frames := 0, cells := 0, slots := 0, locals := 0 }).room s m ([.ref (ad 6)] : List Value).toArray below meth c H locs 0 0 (MQ below (pt_Q none D (wC ca ad σ') A) ([.ref (ad 6)] : List Value).toArray s 0 0 A) (F0 m 2 ls []) := by
    intro n
    induction n with
    | zero => intro σ x1 h; cases h
    | succ n ih0 =>
      intro σ x1 h H locs ls hP hS hl
      rw [lp_X1_dropFirst_2] at h
      refine lv_iload_n hx hb dX1_dropFirst_2 rfl (lv_at hl 1 rfl) ?_
      refine lv_aload_n hx hb dX1_dropFirst_3 rfl (lv_at hl 0 rfl) ?_
      refine gf_X1_1 S hiX1 hK hP hf21 dX1_dropFirst_4 ?_
      refine lv_icmp_ge (tgt := 39) hx hb dX1_dropFirst_7 (by decide) (fun c3001 => ?_) (fun c3001 => ?_)
      · replace h := pt_ip c3001 h
        exact X2 _ _ h _ _ _ hP hS (lv_sub hl [0, 1] rfl)
      · replace h := pt_iN c3001 h
        refine lv_iload_n hx hb dX1_dropFirst_10 rfl (lv_at hl 1 rfl) ?_
        refine lv_aload_n hx hb dX1_dropFirst_11 rfl (lv_at hl 0 rfl) ?_
        refine gf_X1_0 S hiX1 hK hP hf11 dX1_dropFirst_12 ?_
        refine ln_C_23 S hK hP dX1_dropFirst_15 ?_
        refine lv_icmp_ge (tgt := 39) hx hb dX1_dropFirst_16 (by decide) (fun c3002 => ?_) (fun c3002 => ?_)
        · replace h := pt_ip c3002 h
          exact X2 _ _ h _ _ _ hP hS (lv_sub hl [0, 1] rfl)
        · replace h := pt_iN c3002 h
          refine lv_aload_n hx hb dX1_dropFirst_19 rfl (lv_at hl 0 rfl) ?_
          refine gf_X1_0 S hiX1 hK hP hf11 dX1_dropFirst_20 ?_
          refine lv_iload_n hx hb dX1_dropFirst_23 rfl (lv_at hl 1 rfl) ?_
          refine lv_iconst (v := 1) hx hb dX1_dropFirst_24 (by decide) ?_
          refine lv_isub hx hb dX1_dropFirst_25 ?_
          refine lv_aload_n hx hb dX1_dropFirst_26 rfl (lv_at hl 0 rfl) ?_
          refine gf_X1_0 S hiX1 hK hP hf11 dX1_dropFirst_27 ?_
          refine lv_iload_n hx hb dX1_dropFirst_30 rfl (lv_at hl 1 rfl) ?_
          replace h := pt_gd h; obtain ⟨g3003, h⟩ := h
          refine ld_C_23 S hK hP g3003 dX1_dropFirst_31 ?_
          replace h := pt_gd h; obtain ⟨g3004, h⟩ := h
          replace h := pt_dos h; obtain ⟨σ3005, e3005, h⟩ := h
          refine st_C_23 S hK hP hDa hS g3004 e3005 dX1_dropFirst_32 (fun H locs hP hS => ?_)
          refine lv_iinc (v := x1 + (1 : Int32)) (lv' := [(1, .int (x1 + (1 : Int32))), (0, .ref (ad 6))]) hx hb dX1_dropFirst_33 hl (k := 1) rfl rfl (by decide) rfl (fun ls hl => ?_)
          refine lv_goto (tgt := 2) hx hb dX1_dropFirst_36 (by decide) ?_
          exact ih0 _ _ h _ _ _ hP hS (lv_sub hl [1, 0] rfl)
  exact L2 _ _ _ h _ _ _ hP hS (lv_sub hl [1, 0] rfl)

def lp_X1_giveBack_15 (k : pt_St → Int32 → Option pt_St) (a1 : Int32) : Nat → pt_St → Int32 → Option pt_St
  | 0, _, _ => none
  | n + 1, σ, x2 =>
    if x2 ≤ (0 : Int32) then
    k σ x2
    else
    if pt_iw (σ 23 (0 : Int32).toNatClampNeg) then
    if (σ (9 + (σ 23 (0 : Int32).toNatClampNeg).toNatClampNeg) 4) ≤ (σ 6 2) then
    pt_b1 (f_X1_dropFirst σ) fun σ16004 =>
    pt_do (pt_put σ16004 6 2 ((σ16004 6 2) - (σ16004 (9 + (σ 23 (0 : Int32).toNatClampNeg).toNatClampNeg) 4))) fun σ16005 =>
    pt_b1 (f_X8_startWork σ16005 (σ 23 (0 : Int32).toNatClampNeg)) fun σ16006 =>
    lp_X1_giveBack_15 k a1 n σ16006 (x2 + (-1 : Int32))
    else
    some σ
    else
    some σ
def kx_X1_giveBack_15 (a1 : Int32) (σ : pt_St) (x2 : Int32) : Option pt_St :=
  some σ
def f_X1_giveBack (σ : pt_St) (a1 : Int32) : Option pt_St :=
  pt_do (pt_put σ 6 2 ((σ 6 2) + a1)) fun σ1 =>
  lp_X1_giveBack_15 (kx_X1_giveBack_15 a1) a1 pt_F σ1 (σ1 6 1)
set_option maxHeartbeats 4000000 in
set_option maxRecDepth 100000 in
theorem m_X1_giveBack (l : Launch) {D : va_G} {A : Nat → Prop} {ca : Nat → ClassId} {ad : Nat → Nat} {z : Nat × Nat} (hDa : ∀ σ, va_D A (wC ca ad σ)) {σ σ' : pt_St} {a1 : Int32} (h : f_X1_giveBack σ a1 = some σ') : Met l yX1_giveBack wsX1_giveBack { frames := 1, cells := 0, slots := 0, locals := 21 } (va_Pc [.ref (ad 6), .int a1] (pt_Pre D (tysC ca) z A (wC ca ad σ))) (pt_Q none D (wC ca ad σ') A) 0 0 A := by
  refine Met.ofW (cc := cX1_giveBack) (maxL := 4) (ret := none) (by decide) rfl ?_
  intro p e s m args below meth c s₁ B hml hv
  obtain ⟨rfl, hP, hK, hZ⟩ := hv
  have S : CallFix p m c cX1_giveBack 4 s ([.ref (ad 6), .int a1] : List Value).toArray wsX1_giveBack RX1 := ⟨B.exec, B.bytes, hml, findClass_of_methodNamed B.named, atoms_spec (ws := wsX1_giveBack) B.pre⟩
  have hx := S.1
  have hb := S.2.1
  have hr := B.returns
  have hlk := B.notSynchronized
  clear B
  have hiX1 : ∀ w ∈ wsX10, w ∈ wsX1_giveBack := fun w h => List.mem_cons_of_mem _ (List.mem_append_left _ (List.mem_append_right _ h))
  have hiX8 : ∀ w ∈ wsX80, w ∈ wsX1_giveBack := fun w h => List.mem_cons_of_mem _ (List.mem_append_right _ h)
  have hf17 : (Cond.fieldLink RX1 17 "PackThreads$Memory" "left" "I").before _ s = true := S.2.2.2.2 _ (List.mem_of_getElem? (i := 1) rfl)
  have hf21 : (Cond.fieldLink RX1 21 "PackThreads$Memory" "inLine" "I").before _ s = true := S.2.2.2.2 _ (List.mem_of_getElem? (i := 2) rfl)
  have hf11 : (Cond.fieldLink RX1 11 "PackThreads$Memory" "line" "[LPackThreads$Worker;").before _ s = true := S.2.2.2.2 _ (List.mem_of_getElem? (i := 3) rfl)
  have hS : va_S A s.heap s.heap [] := va_S.rf
  have hl := lv_entry ([.ref (ad 6), .int a1]) (n := 4) (Nat.le_of_ble_eq_true rfl)
  rw [lg_entry_eq]
  generalize (lg_sl ([.ref (ad 6), .int a1]) ++ List.replicate (4 - (lg_sl ([.ref (ad 6), .int a1])).length) Slot.unset).toArray = ls at hl ⊢
  have hl : lv_has ls 4 [(0, .ref (ad 6)), (1, .int a1)] := hl
  unfold f_X1_giveBack at h
  refine lv_aload_n hx hb dX1_giveBack_0 rfl (lv_at hl 0 rfl) ?_
  refine lv_dup hx hb dX1_giveBack_1 rfl ?_
  refine gf_X1_2 S hiX1 hK hP hf17 dX1_giveBack_2 ?_
  refine lv_iload_n hx hb dX1_giveBack_5 rfl (lv_at hl 1 rfl) ?_
  refine lv_iadd hx hb dX1_giveBack_6 ?_
  replace h := pt_dos h; obtain ⟨σ1, e1, h⟩ := h
  refine pf_X1_2 S hiX1 hK hP hDa hS hf17 e1 dX1_giveBack_7 (fun H locs hP hS => ?_)
  refine lv_aload_n hx hb dX1_giveBack_10 rfl (lv_at hl 0 rfl) ?_
  refine gf_X1_1 S hiX1 hK hP hf21 dX1_giveBack_11 ?_
  refine lv_istore_n (lv' := [(2, .int (σ1 6 1)), (0, .ref (ad 6)), (1, .int a1)]) hx hb dX1_giveBack_14 rfl hl (by decide) rfl (fun ls hl => ?_)
  have X15 : ∀ (σ : pt_St) (x2 : Int32), kx_X1_giveBack_15 a1 σ x2 = some σ' → ∀ (H : Heap) (locs : List Loc) (ls : Array Slot), va_P D vwCl (wC ca ad σ) H → va_S A s.heap H locs → lv_has ls 4 [(0, .ref (ad 6)), (1, .int a1), (2, .int x2)] → W p l e (headSpec wsX1_giveBack { frames := 1, cells := 0, slots := 0, locals := 21 }).room s m ([.ref (ad 6), .int a1] : List Value).toArray below meth c H locs 0 0 (MQ below (pt_Q none D (wC ca ad σ') A) ([.ref (ad 6), .int a1] : List Value).toArray s 0 0 A) (F0 m 69 ls []) := by
    intro σ x2 h H locs ls hP hS hl
    unfold kx_X1_giveBack_15 at h
    exact pt_vret S hr hlk hP hS (congrArg (wC ca ad) (pt_so h)) dX1_giveBack_69
  have L15 : ∀ (n : Nat) (σ : pt_St) (x2 : Int32),  lp_X1_giveBack_15 (kx_X1_giveBack_15 a1) a1 n σ x2 = some σ' → ∀ (H : Heap) (locs : List Loc) (ls : Array Slot), va_P D vwCl (wC ca ad σ) H → va_S A s.heap H locs → lv_has ls 4 [(0, .ref (ad 6)), (1, .int a1), (2, .int x2)] → W p l e (headSpec wsX1_giveBack { frames := 1, cells := 0, slots := 0, locals := 21 }).room s m ([.ref (ad 6), .int a1] : List Value).toArray below meth c H locs 0 0 (MQ below (pt_Q none D (wC ca ad σ') A) ([.ref (ad 6), .int a1] : List Value).toArray s 0 0 A) (F0 m 15 ls []) := by
    intro n
    induction n with
    | zero => intro σ x2 h; cases h
    | succ n ih0 =>
      intro σ x2 h H locs ls hP hS hl
      rw [lp_X1_giveBack_15] at h
      refine lv_iload_n hx hb dX1_giveBack_15 rfl (lv_at hl 2 rfl) ?_
      refine lv_if_le (tgt := 69) hx hb dX1_giveBack_16 (by decide) (fun c16001 => ?_) (fun c16001 => ?_)
      · replace h := pt_ip c16001 h
        exact X15 _ _ h _ _ _ hP hS (lv_sub hl [0, 1, 2] rfl)
      · replace h := pt_iN c16001 h
        refine lv_aload_n hx hb dX1_giveBack_19 rfl (lv_at hl 0 rfl) ?_
        refine gf_X1_0 S hiX1 hK hP hf11 dX1_giveBack_20 ?_
        refine lv_iconst (v := 0) hx hb dX1_giveBack_23 (by decide) ?_
        refine ld_C_23 S hK hP (by decide) dX1_giveBack_24 ?_
        by_cases c16002 : pt_iw (σ 23 (0 : Int32).toNatClampNeg)
        · replace h := pt_ip c16002 h
          refine pt_fkW c16002 ?_
          refine lv_astore_n (lv' := [(3, .ref (ad (9 + (σ 23 (0 : Int32).toNatClampNeg).toNatClampNeg))), (0, .ref (ad 6)), (1, .int a1), (2, .int x2)]) hx hb dX1_giveBack_25 rfl hl (by decide) rfl (fun ls hl => ?_)
          refine lv_aload_n hx hb dX1_giveBack_26 rfl (lv_at hl 0 rfl) ?_
          refine lv_ifnull hx hb dX1_giveBack_27 ?_
          refine lv_aload_n hx hb dX1_giveBack_30 rfl (lv_at hl 0 rfl) ?_
          refine gfN_X8_4 (pt_in_lt c16002) S hiX8 hK hP (List.mem_of_getElem? (i := 9) rfl) dX1_giveBack_31 ?_
          refine lv_aload_n hx hb dX1_giveBack_34 rfl (lv_at hl 1 rfl) ?_
          refine gf_X1_2 S hiX1 hK hP hf17 dX1_giveBack_35 ?_
          refine lv_icmp_le (tgt := 42) hx hb dX1_giveBack_38 (by decide) (fun c16003 => ?_) (fun c16003 => ?_)
          · replace h := pt_ip c16003 h
            refine lv_aload_n hx hb dX1_giveBack_42 rfl (lv_at hl 1 rfl) ?_
            replace h := pt_b1s h; obtain ⟨σ16004, e16004, h⟩ := h
            refine pt_cVv (As := []) (rest := []) S (m_X1_dropFirst l hDa e16004) (cwV 0 S.2.2.2.2 gX1_giveBack_X1_dropFirst rfl rfl rfl (by decide +kernel) ⟨Nat.le_of_ble_eq_true rfl, Nat.le_of_ble_eq_true rfl⟩) hK hP hS hZ 6 1 rfl rfl rfl hl.1 rfl (Nat.le_of_ble_eq_true rfl) dX1_giveBack_43 ⟨Nat.zero_le _, Nat.zero_le _⟩ (fun H locs hP hS => ?_)
            refine lv_aload_n hx hb dX1_giveBack_46 rfl (lv_at hl 1 rfl) ?_
            refine lv_dup hx hb dX1_giveBack_47 rfl ?_
            refine gf_X1_2 S hiX1 hK hP hf17 dX1_giveBack_48 ?_
            refine lv_aload_n hx hb dX1_giveBack_51 rfl (lv_at hl 0 rfl) ?_
            refine gfN_X8_4 (pt_in_lt c16002) S hiX8 hK hP (List.mem_of_getElem? (i := 9) rfl) dX1_giveBack_52 ?_
            refine lv_isub hx hb dX1_giveBack_55 ?_
            replace h := pt_dos h; obtain ⟨σ16005, e16005, h⟩ := h
            refine pf_X1_2 S hiX1 hK hP hDa hS hf17 e16005 dX1_giveBack_56 (fun H locs hP hS => ?_)
            refine lv_aload_n hx hb dX1_giveBack_59 rfl (lv_at hl 0 rfl) ?_
            replace h := pt_b1s h; obtain ⟨σ16006, e16006, h⟩ := h
            refine pt_cVv (As := []) (rest := []) S (m_X8_startWork l hDa c16002 e16006) (cwV 0 S.2.2.2.2 gX1_giveBack_X8_startWork rfl rfl rfl (by decide +kernel) ⟨Nat.le_of_ble_eq_true rfl, Nat.le_of_ble_eq_true rfl⟩) hK hP hS hZ (9 + (σ 23 (0 : Int32).toNatClampNeg).toNatClampNeg) 8 (pt_w8 (pt_in_lt c16002) ca ad σ16005) rfl rfl hl.1 rfl (Nat.le_of_ble_eq_true rfl) dX1_giveBack_60 ⟨Nat.zero_le _, Nat.zero_le _⟩ (fun H locs hP hS => ?_)
            refine lv_iinc (v := x2 + (-1 : Int32)) (lv' := [(2, .int (x2 + (-1 : Int32))), (3, .ref (ad (9 + (σ 23 (0 : Int32).toNatClampNeg).toNatClampNeg))), (0, .ref (ad 6)), (1, .int a1)]) hx hb dX1_giveBack_63 hl (k := 3) rfl rfl (by decide) rfl (fun ls hl => ?_)
            refine lv_goto (tgt := 15) hx hb dX1_giveBack_66 (by decide) ?_
            exact ih0 _ _ h _ _ _ hP hS (lv_sub hl [2, 3, 0] rfl)
          · replace h := pt_iN c16003 h
            exact pt_vret S hr hlk hP hS (congrArg (wC ca ad) (pt_so h)) dX1_giveBack_41
        · replace h := pt_iN c16002 h
          refine pt_fkN c16002 ?_
          refine lv_astore_nN (lv' := [(3, .null), (0, .ref (ad 6)), (1, .int a1), (2, .int x2)]) hx hb dX1_giveBack_25 rfl hl (by decide) rfl (fun ls hl => ?_)
          refine lv_aload_nN hx hb dX1_giveBack_26 rfl (lv_at hl 0 rfl) ?_
          refine lv_ifnullN (tgt := 41) hx hb dX1_giveBack_27 (by decide) ?_
          exact pt_vret S hr hlk hP hS (congrArg (wC ca ad) (pt_so h)) dX1_giveBack_41
  exact L15 _ _ _ h _ _ _ hP hS (lv_sub hl [1, 2, 0] rfl)

def f_X1_numberAt (σ : pt_St) (a1 : Int32) : Option (Int32 × pt_St) :=
  if a1 < (0 : Int32) then
  some ((-1 : Int32), σ)
  else
  if (σ 6 1) ≤ a1 then
  some ((-1 : Int32), σ)
  else
  if a1 < (6 : Int32) then
  if pt_in a1 6 then
  if pt_iw (σ 23 a1.toNatClampNeg) then
  some ((σ (9 + (σ 23 a1.toNatClampNeg).toNatClampNeg) 0), σ)
  else
  some ((-1 : Int32), σ)
  else none
  else
  some ((-1 : Int32), σ)
set_option maxHeartbeats 4000000 in
set_option maxRecDepth 100000 in
theorem m_X1_numberAt (l : Launch) {D : va_G} {A : Nat → Prop} {ca : Nat → ClassId} {ad : Nat → Nat} {z : Nat × Nat} (hDa : ∀ σ, va_D A (wC ca ad σ)) {σ σ' : pt_St} {r : Int32} {a1 : Int32} (h : f_X1_numberAt σ a1 = some (r, σ')) : Met l yX1_numberAt wsX1_numberAt { frames := 0, cells := 0, slots := 0, locals := 0 } (va_Pc [.ref (ad 6), .int a1] (pt_Pre D (tysC ca) z A (wC ca ad σ))) (pt_Q (some (.int r)) D (wC ca ad σ') A) 0 0 A := by
  refine Met.ofW (cc := cX1_numberAt) (maxL := 3) (ret := (some .int)) (by decide) rfl ?_
  intro p e s m args below meth c s₁ B hml hv
  obtain ⟨rfl, hP, hK, hZ⟩ := hv
  have S : CallFix p m c cX1_numberAt 3 s ([.ref (ad 6), .int a1] : List Value).toArray wsX1_numberAt RX1 := ⟨B.exec, B.bytes, hml, findClass_of_methodNamed B.named, atoms_spec (ws := wsX1_numberAt) B.pre⟩
  have hx := S.1
  have hb := S.2.1
  have hr := B.returns
  have hlk := B.notSynchronized
  clear B
  have hiX1 : ∀ w ∈ wsX10, w ∈ wsX1_numberAt := fun w h => List.mem_cons_of_mem _ (List.mem_append_left _ (List.mem_append_right _ h))
  have hiX8 : ∀ w ∈ wsX80, w ∈ wsX1_numberAt := fun w h => List.mem_cons_of_mem _ (List.mem_append_right _ h)
  have hf21 : (Cond.fieldLink RX1 21 "PackThreads$Memory" "inLine" "I").before _ s = true := S.2.2.2.2 _ (List.mem_of_getElem? (i := 1) rfl)
  have hf11 : (Cond.fieldLink RX1 11 "PackThreads$Memory" "line" "[LPackThreads$Worker;").before _ s = true := S.2.2.2.2 _ (List.mem_of_getElem? (i := 2) rfl)
  have hS : va_S A s.heap s.heap [] := va_S.rf
  have hl := lv_entry ([.ref (ad 6), .int a1]) (n := 3) (Nat.le_of_ble_eq_true rfl)
  rw [lg_entry_eq]
  generalize (lg_sl ([.ref (ad 6), .int a1]) ++ List.replicate (3 - (lg_sl ([.ref (ad 6), .int a1])).length) Slot.unset).toArray = ls at hl ⊢
  have hl : lv_has ls 3 [(0, .ref (ad 6)), (1, .int a1)] := hl
  unfold f_X1_numberAt at h
  refine lv_iload_n hx hb dX1_numberAt_0 rfl (lv_at hl 1 rfl) ?_
  refine lv_if_lt (tgt := 21) hx hb dX1_numberAt_1 (by decide) (fun c1 => ?_) (fun c1 => ?_)
  · replace h := pt_ip c1 h
    refine lv_iconst (v := -1) hx hb dX1_numberAt_21 (by decide) ?_
    exact pt_iret S hr hlk hP hS (pt_pr h).1 (congrArg (wC ca ad) (pt_pr h).2) dX1_numberAt_22
  · replace h := pt_iN c1 h
    refine lv_iload_n hx hb dX1_numberAt_4 rfl (lv_at hl 1 rfl) ?_
    refine lv_aload_n hx hb dX1_numberAt_5 rfl (lv_at hl 0 rfl) ?_
    refine gf_X1_1 S hiX1 hK hP hf21 dX1_numberAt_6 ?_
    refine lv_icmp_ge (tgt := 21) hx hb dX1_numberAt_9 (by decide) (fun c2 => ?_) (fun c2 => ?_)
    · replace h := pt_ip c2 h
      refine lv_iconst (v := -1) hx hb dX1_numberAt_21 (by decide) ?_
      exact pt_iret S hr hlk hP hS (pt_pr h).1 (congrArg (wC ca ad) (pt_pr h).2) dX1_numberAt_22
    · replace h := pt_iN c2 h
      refine lv_iload_n hx hb dX1_numberAt_12 rfl (lv_at hl 1 rfl) ?_
      refine lv_aload_n hx hb dX1_numberAt_13 rfl (lv_at hl 0 rfl) ?_
      refine gf_X1_0 S hiX1 hK hP hf11 dX1_numberAt_14 ?_
      refine ln_C_23 S hK hP dX1_numberAt_17 ?_
      refine lv_icmp_lt (tgt := 23) hx hb dX1_numberAt_18 (by decide) (fun c3 => ?_) (fun c3 => ?_)
      · replace h := pt_ip c3 h
        refine lv_aload_n hx hb dX1_numberAt_23 rfl (lv_at hl 0 rfl) ?_
        refine gf_X1_0 S hiX1 hK hP hf11 dX1_numberAt_24 ?_
        refine lv_iload_n hx hb dX1_numberAt_27 rfl (lv_at hl 1 rfl) ?_
        replace h := pt_gd h; obtain ⟨g4, h⟩ := h
        refine ld_C_23 S hK hP g4 dX1_numberAt_28 ?_
        by_cases c5 : pt_iw (σ 23 a1.toNatClampNeg)
        · replace h := pt_ip c5 h
          refine pt_fkW c5 ?_
          refine lv_astore_n (lv' := [(2, .ref (ad (9 + (σ 23 a1.toNatClampNeg).toNatClampNeg))), (0, .ref (ad 6)), (1, .int a1)]) hx hb dX1_numberAt_29 rfl hl (by decide) rfl (fun ls hl => ?_)
          refine lv_aload_n hx hb dX1_numberAt_30 rfl (lv_at hl 0 rfl) ?_
          refine lv_ifnonnull (tgt := 38) hx hb dX1_numberAt_31 (by decide) ?_
          refine lv_aload_n hx hb dX1_numberAt_38 rfl (lv_at hl 0 rfl) ?_
          refine gfN_X8_0 (pt_in_lt c5) S hiX8 hK hP (List.mem_of_getElem? (i := 5) rfl) dX1_numberAt_39 ?_
          exact pt_iret S hr hlk hP hS (pt_pr h).1 (congrArg (wC ca ad) (pt_pr h).2) dX1_numberAt_42
        · replace h := pt_iN c5 h
          refine pt_fkN c5 ?_
          refine lv_astore_nN (lv' := [(2, .null), (0, .ref (ad 6)), (1, .int a1)]) hx hb dX1_numberAt_29 rfl hl (by decide) rfl (fun ls hl => ?_)
          refine lv_aload_nN hx hb dX1_numberAt_30 rfl (lv_at hl 0 rfl) ?_
          refine lv_ifnonnullN hx hb dX1_numberAt_31 ?_
          refine lv_iconst (v := -1) hx hb dX1_numberAt_34 (by decide) ?_
          refine lv_goto (tgt := 42) hx hb dX1_numberAt_35 (by decide) ?_
          exact pt_iret S hr hlk hP hS (pt_pr h).1 (congrArg (wC ca ad) (pt_pr h).2) dX1_numberAt_42
      · replace h := pt_iN c3 h
        refine lv_iconst (v := -1) hx hb dX1_numberAt_21 (by decide) ?_
        exact pt_iret S hr hlk hP hS (pt_pr h).1 (congrArg (wC ca ad) (pt_pr h).2) dX1_numberAt_22
