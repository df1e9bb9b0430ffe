def lp_X0_renew_2 (k : pt_St → Int32 → Option pt_St) : Nat → pt_St → Int32 → Option pt_St
  | 0, _, _ => none
  | n + 1, σ, x1 =>
    if (40 : Int32) ≤ x1 then
    k σ x1
    else
    if pt_in x1 40 then
    pt_do (pt_put σ 25 x1.toNatClampNeg (vp_nar .boolean (0 : Int32))) fun σ3003 =>
    lp_X0_renew_2 k n σ3003 (x1 + (1 : Int32))
    else none
def kx_X0_renew_2 (σ : pt_St) (x1 : Int32) : Option pt_St :=
  pt_do (pt_put σ 8 2 (0 : Int32)) fun σ3501 =>
  some σ3501
def f_X0_renew (σ : pt_St) : Option pt_St :=
  lp_X0_renew_2 (kx_X0_renew_2) pt_F σ (0 : Int32)
set_option maxHeartbeats 4000000 in
set_option maxRecDepth 100000 in
theorem m_X0_renew (l : Launch) {D : va_G} {A : Nat → Prop} {ca : Nat → ClassId} {ad : Nat → Nat} {z : Nat × Nat} (hDa : ∀ σ, va_D A (wC ca ad σ)) {σ σ' : pt_St} (h : f_X0_renew σ = some σ') : Met l yX0_renew wsX0_renew { frames := 0, cells := 0, slots := 0, locals := 0 } (va_Pc [.ref (ad 8)] (pt_Pre D (tysC ca) z A (wC ca ad σ))) (pt_Q none D (wC ca ad σ') A) 0 0 A := by
  refine Met.ofW (cc := cX0_renew) (maxL := 2) (ret := none) (by decide) rfl ?_
  intro p e s m args below meth c s₁ B hml hv
  obtain ⟨rfl, hP, hK, hZ⟩ := hv
  have S : CallFix p m c cX0_renew 2 s ([.ref (ad 8)] : List Value).toArray wsX0_renew RX0 := ⟨B.exec, B.bytes, hml, findClass_of_methodNamed B.named, atoms_spec (ws := wsX0_renew) B.pre⟩
  have hx := S.1
  have hb := S.2.1
  have hr := B.returns
  have hlk := B.notSynchronized
  clear B
  have hiX0 : ∀ w ∈ wsX00, w ∈ wsX0_renew := fun w h => List.mem_cons_of_mem _ (List.mem_append_right _ h)
  have hf9 : (Cond.fieldLink RX0 9 "PackThreads$Failed" "before" "[Z").before _ s = true := S.2.2.2.2 _ (List.mem_of_getElem? (i := 1) rfl)
  have hf19 : (Cond.fieldLink RX0 19 "PackThreads$Failed" "inLine" "I").before _ s = true := S.2.2.2.2 _ (List.mem_of_getElem? (i := 2) rfl)
  have hS : va_S A s.heap s.heap [] := va_S.rf
  have hl := lv_entry ([.ref (ad 8)]) (n := 2) (Nat.le_of_ble_eq_true rfl)
  rw [lg_entry_eq]
  generalize (lg_sl ([.ref (ad 8)]) ++ List.replicate (2 - (lg_sl ([.ref (ad 8)])).length) Slot.unset).toArray = ls at hl ⊢
  have hl : lv_has ls 2 [(0, .ref (ad 8))] := hl
  unfold f_X0_renew at h
  refine lv_iconst (v := 0) hx hb dX0_renew_0 (by decide) ?_
  refine lv_istore_n (lv' := [(1, .int (0 : Int32)), (0, .ref (ad 8))]) hx hb dX0_renew_1 rfl hl (by decide) rfl (fun ls hl => ?_)
  have X2 : ∀ (σ : pt_St) (x1 : Int32), kx_X0_renew_2 σ x1 = some σ' → ∀ (H : Heap) (locs : List Loc) (ls : Array Slot), va_P D vwCl (wC ca ad σ) H → va_S A s.heap H locs → lv_has ls 2 [(0, .ref (ad 8)), (1, .int x1)] → W p l e (headSpec wsX0_renew { frames := 0, cells := 0, slots := 0, locals := 0 }).room s m ([.ref (ad 8)] : List Value).toArray below meth c H locs 0 0 (MQ below (pt_Q none D (wC ca ad σ') A) ([.ref (ad 8)] : List Value).toArray s 0 0 A) (F0 m 24 ls []) := by
    intro σ x1 h H locs ls hP hS hl
    unfold kx_X0_renew_2 at h
    refine lv_aload_n hx hb dX0_renew_24 rfl (lv_at hl 0 rfl) ?_
    refine lv_iconst (v := 0) hx hb dX0_renew_25 (by decide) ?_
    replace h := pt_dos h; obtain ⟨σ3501, e3501, h⟩ := h
    refine pf_X0_2 S hiX0 hK hP hDa hS hf19 e3501 dX0_renew_26 (fun H locs hP hS => ?_)
    exact pt_vret S hr hlk hP hS (congrArg (wC ca ad) (pt_so h)) dX0_renew_29
  have L2 : ∀ (n : Nat) (σ : pt_St) (x1 : Int32),  lp_X0_renew_2 (kx_X0_renew_2) n σ x1 = some σ' → ∀ (H : Heap) (locs : List Loc) (ls : Array Slot), va_P D vwCl (wC ca ad σ) H → va_S A s.heap H locs → lv_has ls 2 [(0, .ref (ad 8)), (1, .int x1)] → W p l e (headSpec wsX0_renew { frames := 0, cells := 0, slots := 0, locals := 0 }).room s m ([.ref (ad 8)] : List Value).toArray below meth c H locs 0 0 (MQ below (pt_Q none D (wC ca ad σ') A) ([.ref (ad 8)] : List Value).toArray s 0 0 A) (F0 m 2 ls []) := by
    intro n
    induction n with
    | zero => intro σ x1 h; cases h
    | succ n ih0 =>
      intro σ x1 h H locs ls hP hS hl
      rw [lp_X0_renew_2] at h
      refine lv_iload_n hx hb dX0_renew_2 rfl (lv_at hl 1 rfl) ?_
      refine lv_aload_n hx hb dX0_renew_3 rfl (lv_at hl 0 rfl) ?_
      refine gf_X0_0 S hiX0 hK hP hf9 dX0_renew_4 ?_
      refine ln_C_25 S hK hP dX0_renew_7 ?_
      refine lv_icmp_ge (tgt := 24) hx hb dX0_renew_8 (by decide) (fun c3001 => ?_) (fun c3001 => ?_)
      · replace h := pt_ip c3001 h
        exact X2 _ _ h _ _ _ hP hS (lv_sub hl [0, 1] rfl)
      · replace h := pt_iN c3001 h
        refine lv_aload_n hx hb dX0_renew_11 rfl (lv_at hl 0 rfl) ?_
        refine gf_X0_0 S hiX0 hK hP hf9 dX0_renew_12 ?_
        refine lv_iload_n hx hb dX0_renew_15 rfl (lv_at hl 1 rfl) ?_
        refine lv_iconst (v := 0) hx hb dX0_renew_16 (by decide) ?_
        replace h := pt_gd h; obtain ⟨g3002, h⟩ := h
        replace h := pt_dos h; obtain ⟨σ3003, e3003, h⟩ := h
        refine st_C_25 S hK hP hDa hS g3002 e3003 dX0_renew_17 (fun H locs hP hS => ?_)
        refine lv_iinc (v := x1 + (1 : Int32)) (lv' := [(1, .int (x1 + (1 : Int32))), (0, .ref (ad 8))]) hx hb dX0_renew_18 hl (k := 1) rfl rfl (by decide) rfl (fun ls hl => ?_)
        refine lv_goto (tgt := 2) hx hb dX0_renew_21 (by decide) ?_
        exact ih0 _ _ h _ _ _ hP hS (lv_sub hl [1, 0] rfl)
  exact L2 _ _ _ h _ _ _ hP hS (lv_sub hl [1, 0] rfl)

def f_X0_has (σ : pt_St) (a1 : Int32) : Option (Int32 × pt_St) :=
  if a1 < (0 : Int32) then
  some ((0 : Int32), σ)
  else
  if (40 : Int32) ≤ a1 then
  some ((0 : Int32), σ)
  else
  if pt_in a1 40 then
  if (σ 25 a1.toNatClampNeg) = (0 : Int32) then
  some ((0 : Int32), σ)
  else
  some ((1 : Int32), σ)
  else none
set_option maxHeartbeats 4000000 in
set_option maxRecDepth 100000 in
theorem m_X0_has (l : Launch) {D : va_G} {A : Nat → Prop} {ca : Nat → ClassId} {ad : Nat → Nat} {z : Nat × Nat} (hDa : ∀ σ, va_D A (wC ca ad σ)) {σ σ' : pt_St} {r : Int32} {a1 : Int32} (h : f_X0_has σ a1 = some (r, σ')) : Met l yX0_has wsX0_has { frames := 0, cells := 0, slots := 0, locals := 0 } (va_Pc [.ref (ad 8), .int a1] (pt_Pre D (tysC ca) z A (wC ca ad σ))) (pt_Q (some (.int r)) D (wC ca ad σ') A) 0 0 A := by
  refine Met.ofW (cc := cX0_has) (maxL := 2) (ret := (some .boolean)) (by decide) rfl ?_
  intro p e s m args below meth c s₁ B hml hv
  obtain ⟨rfl, hP, hK, hZ⟩ := hv
  have S : CallFix p m c cX0_has 2 s ([.ref (ad 8), .int a1] : List Value).toArray wsX0_has RX0 := ⟨B.exec, B.bytes, hml, findClass_of_methodNamed B.named, atoms_spec (ws := wsX0_has) B.pre⟩
  have hx := S.1
  have hb := S.2.1
  have hr := B.returns
  have hlk := B.notSynchronized
  clear B
  have hiX0 : ∀ w ∈ wsX00, w ∈ wsX0_has := fun w h => List.mem_cons_of_mem _ (List.mem_append_right _ h)
  have hf9 : (Cond.fieldLink RX0 9 "PackThreads$Failed" "before" "[Z").before _ s = true := S.2.2.2.2 _ (List.mem_of_getElem? (i := 1) rfl)
  have hS : va_S A s.heap s.heap [] := va_S.rf
  have hl := lv_entry ([.ref (ad 8), .int a1]) (n := 2) (Nat.le_of_ble_eq_true rfl)
  rw [lg_entry_eq]
  generalize (lg_sl ([.ref (ad 8), .int a1]) ++ List.replicate (2 - (lg_sl ([.ref (ad 8), .int a1])).length) Slot.unset).toArray = ls at hl ⊢
  have hl : lv_has ls 2 [(0, .ref (ad 8)), (1, .int a1)] := hl
  unfold f_X0_has at h
  refine lv_iload_n hx hb dX0_has_0 rfl (lv_at hl 1 rfl) ?_
  refine lv_if_lt (tgt := 26) hx hb dX0_has_1 (by decide) (fun c1 => ?_) (fun c1 => ?_)
  · replace h := pt_ip c1 h
    refine lv_iconst (v := 0) hx hb dX0_has_26 (by decide) ?_
    exact pt_zret S hr hlk hP hS (Or.inl rfl) (pt_pr h).1 (congrArg (wC ca ad) (pt_pr h).2) dX0_has_27
  · replace h := pt_iN c1 h
    refine lv_iload_n hx hb dX0_has_4 rfl (lv_at hl 1 rfl) ?_
    refine lv_aload_n hx hb dX0_has_5 rfl (lv_at hl 0 rfl) ?_
    refine gf_X0_0 S hiX0 hK hP hf9 dX0_has_6 ?_
    refine ln_C_25 S hK hP dX0_has_9 ?_
    refine lv_icmp_ge (tgt := 26) hx hb dX0_has_10 (by decide) (fun c2 => ?_) (fun c2 => ?_)
    · replace h := pt_ip c2 h
      refine lv_iconst (v := 0) hx hb dX0_has_26 (by decide) ?_
      exact pt_zret S hr hlk hP hS (Or.inl rfl) (pt_pr h).1 (congrArg (wC ca ad) (pt_pr h).2) dX0_has_27
    · replace h := pt_iN c2 h
      refine lv_aload_n hx hb dX0_has_13 rfl (lv_at hl 0 rfl) ?_
      refine gf_X0_0 S hiX0 hK hP hf9 dX0_has_14 ?_
      refine lv_iload_n hx hb dX0_has_17 rfl (lv_at hl 1 rfl) ?_
      replace h := pt_gd h; obtain ⟨g3, h⟩ := h
      refine ld_C_25 S hK hP g3 dX0_has_18 ?_
      refine lv_if_eq (tgt := 26) hx hb dX0_has_19 (by decide) (fun c4 => ?_) (fun c4 => ?_)
      · replace h := pt_ip c4 h
        refine lv_iconst (v := 0) hx hb dX0_has_26 (by decide) ?_
        exact pt_zret S hr hlk hP hS (Or.inl rfl) (pt_pr h).1 (congrArg (wC ca ad) (pt_pr h).2) dX0_has_27
      · replace h := pt_iN c4 h
        refine lv_iconst (v := 1) hx hb dX0_has_22 (by decide) ?_
        refine lv_goto (tgt := 27) hx hb dX0_has_23 (by decide) ?_
        exact pt_zret S hr hlk hP hS (Or.inr rfl) (pt_pr h).1 (congrArg (wC ca ad) (pt_pr h).2) dX0_has_27

def f_X0_add (σ : pt_St) (a1 : Int32) : Option pt_St :=
  if a1 < (0 : Int32) then
  some σ
  else
  if (40 : Int32) ≤ a1 then
  some σ
  else
  if (σ 8 2) < (0 : Int32) then
  some σ
  else
  if (40 : Int32) ≤ (σ 8 2) then
  some σ
  else
  if pt_in a1 40 then
  pt_do (pt_put σ 25 a1.toNatClampNeg (vp_nar .boolean (1 : Int32))) fun σ6 =>
  if pt_in (σ6 8 2) 40 then
  pt_do (pt_put σ6 26 (σ6 8 2).toNatClampNeg a1) fun σ8 =>
  pt_do (pt_put σ8 8 2 ((σ8 8 2) + (1 : Int32))) fun σ9 =>
  some σ9
  else none
  else none
set_option maxHeartbeats 4000000 in
set_option maxRecDepth 100000 in
theorem m_X0_add (l : Launch) {D : va_G} {A : Nat → Prop} {ca : Nat → ClassId} {ad : Nat → Nat} {z : Nat × Nat} (hDa : ∀ σ, va_D A (wC ca ad σ)) {σ σ' : pt_St} {a1 : Int32} (h : f_X0_add σ a1 = some σ') : Met l yX0_add wsX0_add { frames := 0, cells := 0, slots := 0, locals := 0 } (va_Pc [.ref (ad 8), .int a1] (pt_Pre D (tysC ca) z A (wC ca ad σ))) (pt_Q none D (wC ca ad σ') A) 0 0 A := by
  refine Met.ofW (cc := cX0_add) (maxL := 2) (ret := none) (by decide) rfl ?_
  intro p e s m args below meth c s₁ B hml hv
  obtain ⟨rfl, hP, hK, hZ⟩ := hv
  have S : CallFix p m c cX0_add 2 s ([.ref (ad 8), .int a1] : List Value).toArray wsX0_add RX0 := ⟨B.exec, B.bytes, hml, findClass_of_methodNamed B.named, atoms_spec (ws := wsX0_add) B.pre⟩
  have hx := S.1
  have hb := S.2.1
  have hr := B.returns
  have hlk := B.notSynchronized
  clear B
  have hiX0 : ∀ w ∈ wsX00, w ∈ wsX0_add := fun w h => List.mem_cons_of_mem _ (List.mem_append_right _ h)
  have hf9 : (Cond.fieldLink RX0 9 "PackThreads$Failed" "before" "[Z").before _ s = true := S.2.2.2.2 _ (List.mem_of_getElem? (i := 1) rfl)
  have hf19 : (Cond.fieldLink RX0 19 "PackThreads$Failed" "inLine" "I").before _ s = true := S.2.2.2.2 _ (List.mem_of_getElem? (i := 2) rfl)
  have hf15 : (Cond.fieldLink RX0 15 "PackThreads$Failed" "line" "[I").before _ s = true := S.2.2.2.2 _ (List.mem_of_getElem? (i := 3) rfl)
  have hS : va_S A s.heap s.heap [] := va_S.rf
  have hl := lv_entry ([.ref (ad 8), .int a1]) (n := 2) (Nat.le_of_ble_eq_true rfl)
  rw [lg_entry_eq]
  generalize (lg_sl ([.ref (ad 8), .int a1]) ++ List.replicate (2 - (lg_sl ([.ref (ad 8), .int a1])).length) Slot.unset).toArray = ls at hl ⊢
  have hl : lv_has ls 2 [(0, .ref (ad 8)), (1, .int a1)] := hl
  unfold f_X0_add at h
  refine lv_iload_n hx hb dX0_add_0 rfl (lv_at hl 1 rfl) ?_
  refine lv_if_lt (tgt := 59) hx hb dX0_add_1 (by decide) (fun c1 => ?_) (fun c1 => ?_)
  · replace h := pt_ip c1 h
    exact pt_vret S hr hlk hP hS (congrArg (wC ca ad) (pt_so h)) dX0_add_59
  · replace h := pt_iN c1 h
    refine lv_iload_n hx hb dX0_add_4 rfl (lv_at hl 1 rfl) ?_
    refine lv_aload_n hx hb dX0_add_5 rfl (lv_at hl 0 rfl) ?_
    refine gf_X0_0 S hiX0 hK hP hf9 dX0_add_6 ?_
    refine ln_C_25 S hK hP dX0_add_9 ?_
    refine lv_icmp_ge (tgt := 59) hx hb dX0_add_10 (by decide) (fun c2 => ?_) (fun c2 => ?_)
    · replace h := pt_ip c2 h
      exact pt_vret S hr hlk hP hS (congrArg (wC ca ad) (pt_so h)) dX0_add_59
    · replace h := pt_iN c2 h
      refine lv_aload_n hx hb dX0_add_13 rfl (lv_at hl 0 rfl) ?_
      refine gf_X0_2 S hiX0 hK hP hf19 dX0_add_14 ?_
      refine lv_if_lt (tgt := 59) hx hb dX0_add_17 (by decide) (fun c3 => ?_) (fun c3 => ?_)
      · replace h := pt_ip c3 h
        exact pt_vret S hr hlk hP hS (congrArg (wC ca ad) (pt_so h)) dX0_add_59
      · replace h := pt_iN c3 h
        refine lv_aload_n hx hb dX0_add_20 rfl (lv_at hl 0 rfl) ?_
        refine gf_X0_2 S hiX0 hK hP hf19 dX0_add_21 ?_
        refine lv_aload_n hx hb dX0_add_24 rfl (lv_at hl 0 rfl) ?_
        refine gf_X0_1 S hiX0 hK hP hf15 dX0_add_25 ?_
        refine ln_C_26 S hK hP dX0_add_28 ?_
        refine lv_icmp_ge (tgt := 59) hx hb dX0_add_29 (by decide) (fun c4 => ?_) (fun c4 => ?_)
        · replace h := pt_ip c4 h
          exact pt_vret S hr hlk hP hS (congrArg (wC ca ad) (pt_so h)) dX0_add_59
        · replace h := pt_iN c4 h
          refine lv_aload_n hx hb dX0_add_32 rfl (lv_at hl 0 rfl) ?_
          refine gf_X0_0 S hiX0 hK hP hf9 dX0_add_33 ?_
          refine lv_iload_n hx hb dX0_add_36 rfl (lv_at hl 1 rfl) ?_
          refine lv_iconst (v := 1) hx hb dX0_add_37 (by decide) ?_
          replace h := pt_gd h; obtain ⟨g5, h⟩ := h
          replace h := pt_dos h; obtain ⟨σ6, e6, h⟩ := h
          refine st_C_25 S hK hP hDa hS g5 e6 dX0_add_38 (fun H locs hP hS => ?_)
          refine lv_aload_n hx hb dX0_add_39 rfl (lv_at hl 0 rfl) ?_
          refine gf_X0_1 S hiX0 hK hP hf15 dX0_add_40 ?_
          refine lv_aload_n hx hb dX0_add_43 rfl (lv_at hl 0 rfl) ?_
          refine gf_X0_2 S hiX0 hK hP hf19 dX0_add_44 ?_
          refine lv_iload_n hx hb dX0_add_47 rfl (lv_at hl 1 rfl) ?_
          replace h := pt_gd h; obtain ⟨g7, h⟩ := h
          replace h := pt_dos h; obtain ⟨σ8, e8, h⟩ := h
          refine st_C_26 S hK hP hDa hS g7 e8 dX0_add_48 (fun H locs hP hS => ?_)
          refine lv_aload_n hx hb dX0_add_49 rfl (lv_at hl 0 rfl) ?_
          refine lv_dup hx hb dX0_add_50 rfl ?_
          refine gf_X0_2 S hiX0 hK hP hf19 dX0_add_51 ?_
          refine lv_iconst (v := 1) hx hb dX0_add_54 (by decide) ?_
          refine lv_iadd hx hb dX0_add_55 ?_
          replace h := pt_dos h; obtain ⟨σ9, e9, h⟩ := h
          refine pf_X0_2 S hiX0 hK hP hDa hS hf19 e9 dX0_add_56 (fun H locs hP hS => ?_)
          exact pt_vret S hr hlk hP hS (congrArg (wC ca ad) (pt_so h)) dX0_add_59

def lp_X0_takeFirst_18 (k : pt_St → Int32 → Int32 → Option (Int32 × pt_St)) : Nat → pt_St → Int32 → Int32 → Option (Int32 × pt_St)
  | 0, _, _, _ => none
  | n + 1, σ, x1, x2 =>
    if (σ 8 2) ≤ x2 then
    k σ x1 x2
    else
    if (40 : Int32) ≤ x2 then
    k σ x1 x2
    else
    if pt_in x2 40 then
    if pt_in (x2 - (1 : Int32)) 40 then
    pt_do (pt_put σ 26 (x2 - (1 : Int32)).toNatClampNeg (σ 26 x2.toNatClampNeg)) fun σ19005 =>
    lp_X0_takeFirst_18 k n σ19005 x1 (x2 + (1 : Int32))
    else none
    else none
def kx_X0_takeFirst_18 (σ : pt_St) (x1 : Int32) (x2 : Int32) : Option (Int32 × pt_St) :=
  pt_do (pt_put σ 8 2 ((σ 8 2) - (1 : Int32))) fun σ19501 =>
  some (x1, σ19501)
def f_X0_takeFirst (σ : pt_St) : Option (Int32 × pt_St) :=
  if (0 : Int32) < (σ 8 2) then
  lp_X0_takeFirst_18 (kx_X0_takeFirst_18) pt_F σ (σ 26 (0 : Int32).toNatClampNeg) (1 : Int32)
  else
  some ((-1 : Int32), σ)
set_option maxHeartbeats 4000000 in
set_option maxRecDepth 100000 in
theorem m_X0_takeFirst (l : Launch) {D : va_G} {A : Nat → Prop} {ca : Nat → ClassId} {ad : Nat → Nat} {z : Nat × Nat} (hDa : ∀ σ, va_D A (wC ca ad σ)) {σ σ' : pt_St} {r : Int32} (h : f_X0_takeFirst σ = some (r, σ')) : Met l yX0_takeFirst wsX0_takeFirst { frames := 0, cells := 0, slots := 0, locals := 0 } (va_Pc [.ref (ad 8)] (pt_Pre D (tysC ca) z A (wC ca ad σ))) (pt_Q (some (.int r)) D (wC ca ad σ') A) 0 0 A := by
  refine Met.ofW (cc := cX0_takeFirst) (maxL := 3) (ret := (some .int)) (by decide) rfl ?_
  intro p e s m args below meth c s₁ B hml hv
  obtain ⟨rfl, hP, hK, hZ⟩ := hv
  have S : CallFix p m c cX0_takeFirst 3 s ([.ref (ad 8)] : List Value).toArray wsX0_takeFirst RX0 := ⟨B.exec, B.bytes, hml, findClass_of_methodNamed B.named, atoms_spec (ws := wsX0_takeFirst) B.pre⟩
  have hx := S.1
  have hb := S.2.1
  have hr := B.returns
  have hlk := B.notSynchronized
  clear B
  have hiX0 : ∀ w ∈ wsX00, w ∈ wsX0_takeFirst := fun w h => List.mem_cons_of_mem _ (List.mem_append_right _ h)
  have hf19 : (Cond.fieldLink RX0 19 "PackThreads$Failed" "inLine" "I").before _ s = true := S.2.2.2.2 _ (List.mem_of_getElem? (i := 1) rfl)
  have hf15 : (Cond.fieldLink RX0 15 "PackThreads$Failed" "line" "[I").before _ s = true := S.2.2.2.2 _ (List.mem_of_getElem? (i := 2) rfl)
  have hS : va_S A s.heap s.heap [] := va_S.rf
  have hl := lv_entry ([.ref (ad 8)]) (n := 3) (Nat.le_of_ble_eq_true rfl)
  rw [lg_entry_eq]
  generalize (lg_sl ([.ref (ad 8)]) ++ List.replicate (3 - (lg_sl ([.ref (ad 8)])).length) Slot.unset).toArray = ls at hl ⊢
  have hl : lv_has ls 3 [(0, .ref (ad 8))] := hl
  unfold f_X0_takeFirst at h
  refine lv_aload_n hx hb dX0_takeFirst_0 rfl (lv_at hl 0 rfl) ?_
  refine gf_X0_2 S hiX0 hK hP hf19 dX0_takeFirst_1 ?_
  refine lv_if_gt (tgt := 9) hx hb dX0_takeFirst_4 (by decide) (fun c1 => ?_) (fun c1 => ?_)
  · replace h := pt_ip c1 h
    refine lv_aload_n hx hb dX0_takeFirst_9 rfl (lv_at hl 0 rfl) ?_
    refine gf_X0_1 S hiX0 hK hP hf15 dX0_takeFirst_10 ?_
    refine lv_iconst (v := 0) hx hb dX0_takeFirst_13 (by decide) ?_
    refine ld_C_26 S hK hP (by decide) dX0_takeFirst_14 ?_
    refine lv_istore_n (lv' := [(1, .int (σ 26 (0 : Int32).toNatClampNeg)), (0, .ref (ad 8))]) hx hb dX0_takeFirst_15 rfl hl (by decide) rfl (fun ls hl => ?_)
    refine lv_iconst (v := 1) hx hb dX0_takeFirst_16 (by decide) ?_
    refine lv_istore_n (lv' := [(2, .int (1 : Int32)), (1, .int (σ 26 (0 : Int32).toNatClampNeg)), (0, .ref (ad 8))]) hx hb dX0_takeFirst_17 rfl hl (by decide) rfl (fun ls hl => ?_)
    have X18 : ∀ (σ : pt_St) (x1 : Int32) (x2 : Int32), kx_X0_takeFirst_18 σ x1 x2 = some (r, σ') → ∀ (H : Heap) (locs : List Loc) (ls : Array Slot), va_P D vwCl (wC ca ad σ) H → va_S A s.heap H locs → lv_has ls 3 [(0, .ref (ad 8)), (1, .int x1), (2, .int x2)] → W p l e (headSpec wsX0_takeFirst { frames := 0, cells := 0, slots := 0, locals := 0 }).room s m ([.ref (ad 8)] : List Value).toArray below meth c H locs 0 0 (MQ below (pt_Q (some (.int r)) D (wC ca ad σ') A) ([.ref (ad 8)] : List Value).toArray s 0 0 A) (F0 m 55 ls []) := by
      intro σ x1 x2 h H locs ls hP hS hl
      unfold kx_X0_takeFirst_18 at h
      refine lv_aload_n hx hb dX0_takeFirst_55 rfl (lv_at hl 0 rfl) ?_
      refine lv_dup hx hb dX0_takeFirst_56 rfl ?_
      refine gf_X0_2 S hiX0 hK hP hf19 dX0_takeFirst_57 ?_
      refine lv_iconst (v := 1) hx hb dX0_takeFirst_60 (by decide) ?_
      refine lv_isub hx hb dX0_takeFirst_61 ?_
      replace h := pt_dos h; obtain ⟨σ19501, e19501, h⟩ := h
      refine pf_X0_2 S hiX0 hK hP hDa hS hf19 e19501 dX0_takeFirst_62 (fun H locs hP hS => ?_)
      refine lv_iload_n hx hb dX0_takeFirst_65 rfl (lv_at hl 1 rfl) ?_
      exact pt_iret S hr hlk hP hS (pt_pr h).1 (congrArg (wC ca ad) (pt_pr h).2) dX0_takeFirst_66
    have L18 : ∀ (n : Nat) (σ : pt_St) (x1 : Int32) (x2 : Int32),  lp_X0_takeFirst_18 (kx_X0_takeFirst_18) n σ x1 x2 = some (r, σ') → ∀ (H : Heap) (locs : List Loc) (ls : Array Slot), va_P D vwCl (wC ca ad σ) H → va_S A s.heap H locs → lv_has ls 3 [(0, .ref (ad 8)), (1, .int x1), (2, .int x2)] → W p l e (headSpec wsX0_takeFirst { frames := 0, cells := 0, slots := 0, locals := 0 }).room s m ([.ref (ad 8)] : List Value).toArray below meth c H locs 0 0 (MQ below (pt_Q (some (.int r)) D (wC ca ad σ') A) ([.ref (ad 8)] : List Value).toArray s 0 0 A) (F0 m 18 ls []) := by
      intro n
      induction n with
      | zero => intro σ x1 x2 h; cases h
      | succ n ih0 =>
        intro σ x1 x2 h H locs ls hP hS hl
        rw [lp_X0_takeFirst_18] at h
        refine lv_iload_n hx hb dX0_takeFirst_18 rfl (lv_at hl 2 rfl) ?_
        refine lv_aload_n hx hb dX0_takeFirst_19 rfl (lv_at hl 0 rfl) ?_
        refine gf_X0_2 S hiX0 hK hP hf19 dX0_takeFirst_20 ?_
        refine lv_icmp_ge (tgt := 55) hx hb dX0_takeFirst_23 (by decide) (fun c19001 => ?_) (fun c19001 => ?_)
        · replace h := pt_ip c19001 h
          exact X18 _ _ _ h _ _ _ hP hS (lv_sub hl [0, 1, 2] rfl)
        · replace h := pt_iN c19001 h
          refine lv_iload_n hx hb dX0_takeFirst_26 rfl (lv_at hl 2 rfl) ?_
          refine lv_aload_n hx hb dX0_takeFirst_27 rfl (lv_at hl 0 rfl) ?_
          refine gf_X0_1 S hiX0 hK hP hf15 dX0_takeFirst_28 ?_
          refine ln_C_26 S hK hP dX0_takeFirst_31 ?_
          refine lv_icmp_ge (tgt := 55) hx hb dX0_takeFirst_32 (by decide) (fun c19002 => ?_) (fun c19002 => ?_)
          · replace h := pt_ip c19002 h
            exact X18 _ _ _ h _ _ _ hP hS (lv_sub hl [0, 1, 2] rfl)
          · replace h := pt_iN c19002 h
            refine lv_aload_n hx hb dX0_takeFirst_35 rfl (lv_at hl 0 rfl) ?_
            refine gf_X0_1 S hiX0 hK hP hf15 dX0_takeFirst_36 ?_
            refine lv_iload_n hx hb dX0_takeFirst_39 rfl (lv_at hl 2 rfl) ?_
            refine lv_iconst (v := 1) hx hb dX0_takeFirst_40 (by decide) ?_
            refine lv_isub hx hb dX0_takeFirst_41 ?_
            refine lv_aload_n hx hb dX0_takeFirst_42 rfl (lv_at hl 0 rfl) ?_
            refine gf_X0_1 S hiX0 hK hP hf15 dX0_takeFirst_43 ?_
            refine lv_iload_n hx hb dX0_takeFirst_46 rfl (lv_at hl 2 rfl) ?_
            replace h := pt_gd h; obtain ⟨g19003, h⟩ := h
            refine ld_C_26 S hK hP g19003 dX0_takeFirst_47 ?_
            replace h := pt_gd h; obtain ⟨g19004, h⟩ := h
            replace h := pt_dos h; obtain ⟨σ19005, e19005, h⟩ := h
            refine st_C_26 S hK hP hDa hS g19004 e19005 dX0_takeFirst_48 (fun H locs hP hS => ?_)
            refine lv_iinc (v := x2 + (1 : Int32)) (lv' := [(2, .int (x2 + (1 : Int32))), (0, .ref (ad 8)), (1, .int x1)]) hx hb dX0_takeFirst_49 hl (k := 2) rfl rfl (by decide) rfl (fun ls hl => ?_)
            refine lv_goto (tgt := 18) hx hb dX0_takeFirst_52 (by decide) ?_
            exact ih0 _ _ _ h _ _ _ hP hS (lv_sub hl [1, 2, 0] rfl)
    exact L18 _ _ _ _ h _ _ _ hP hS (lv_sub hl [2, 1, 0] rfl)
  · replace h := pt_iN c1 h
    refine lv_iconst (v := -1) hx hb dX0_takeFirst_7 (by decide) ?_
    exact pt_iret S hr hlk hP hS (pt_pr h).1 (congrArg (wC ca ad) (pt_pr h).2) dX0_takeFirst_8

def f_X8_startWork (σ : pt_St) (a0 : Int32) : Option pt_St :=
  pt_do (pt_put σ (9 + a0.toNatClampNeg) 1 (2 : Int32)) fun σ1 =>
  pt_do (pt_put σ1 (9 + a0.toNatClampNeg) 3 (0 : Int32)) fun σ2 =>
  some σ2
set_option maxHeartbeats 4000000 in
set_option maxRecDepth 100000 in
theorem m_X8_startWork (l : Launch) {D : va_G} {A : Nat → Prop} {ca : Nat → ClassId} {ad : Nat → Nat} {z : Nat × Nat} (hDa : ∀ σ, va_D A (wC ca ad σ)) {σ σ' : pt_St} {a0 : Int32} (ha0 : pt_iw a0) (h : f_X8_startWork σ a0 = some σ') : Met l yX8_startWork wsX8_startWork { frames := 0, cells := 0, slots := 0, locals := 0 } (va_Pc [.ref (ad (9 + a0.toNatClampNeg))] (pt_Pre D (tysC ca) z A (wC ca ad σ))) (pt_Q none D (wC ca ad σ') A) 0 0 A := by
  refine Met.ofW (cc := cX8_startWork) (maxL := 1) (ret := none) (by decide) rfl ?_
  intro p e s m args below meth c s₁ B hml hv
  obtain ⟨rfl, hP, hK, hZ⟩ := hv
  have S : CallFix p m c cX8_startWork 1 s ([.ref (ad (9 + a0.toNatClampNeg))] : List Value).toArray wsX8_startWork RX8 := ⟨B.exec, B.bytes, hml, findClass_of_methodNamed B.named, atoms_spec (ws := wsX8_startWork) B.pre⟩
  have hx := S.1
  have hb := S.2.1
  have hr := B.returns
  have hlk := B.notSynchronized
  clear B
  have hiX8 : ∀ w ∈ wsX80, w ∈ wsX8_startWork := fun w h => List.mem_cons_of_mem _ (List.mem_append_right _ h)
  have hf28 : (Cond.fieldLink RX8 28 "PackThreads$Worker" "state" "I").before _ s = true := S.2.2.2.2 _ (List.mem_of_getElem? (i := 1) rfl)
  have hf34 : (Cond.fieldLink RX8 34 "PackThreads$Worker" "step" "I").before _ s = true := S.2.2.2.2 _ (List.mem_of_getElem? (i := 2) rfl)
  have hS : va_S A s.heap s.heap [] := va_S.rf
  have hl := lv_entry ([.ref (ad (9 + a0.toNatClampNeg))]) (n := 1) (Nat.le_of_ble_eq_true rfl)
  rw [lg_entry_eq]
  generalize (lg_sl ([.ref (ad (9 + a0.toNatClampNeg))]) ++ List.replicate (1 - (lg_sl ([.ref (ad (9 + a0.toNatClampNeg))])).length) Slot.unset).toArray = ls at hl ⊢
  have hl : lv_has ls 1 [(0, .ref (ad (9 + a0.toNatClampNeg)))] := hl
  unfold f_X8_startWork at h
  refine lv_aload_n hx hb dX8_startWork_0 rfl (lv_at hl 0 rfl) ?_
  refine lv_iconst (v := 2) hx hb dX8_startWork_1 (by decide) ?_
  replace h := pt_dos h; obtain ⟨σ1, e1, h⟩ := h
  refine pf_X8_1 (pt_in_lt ha0) S hiX8 hK hP hDa hS hf28 e1 dX8_startWork_2 (fun H locs hP hS => ?_)
  refine lv_aload_n hx hb dX8_startWork_5 rfl (lv_at hl 0 rfl) ?_
  refine lv_iconst (v := 0) hx hb dX8_startWork_6 (by decide) ?_
  replace h := pt_dos h; obtain ⟨σ2, e2, h⟩ := h
  refine pf_X8_3 (pt_in_lt ha0) S hiX8 hK hP hDa hS hf34 e2 dX8_startWork_7 (fun H locs hP hS => ?_)
  exact pt_vret S hr hlk hP hS (congrArg (wC ca ad) (pt_so h)) dX8_startWork_10

def f_X8_waitInLine (σ : pt_St) (a0 : Int32) : Option pt_St :=
  pt_do (pt_put σ (9 + a0.toNatClampNeg) 1 (1 : Int32)) fun σ1 =>
  some σ1
set_option maxHeartbeats 4000000 in
set_option maxRecDepth 100000 in
theorem m_X8_waitInLine (l : Launch) {D : va_G} {A : Nat → Prop} {ca : Nat → ClassId} {ad : Nat → Nat} {z : Nat × Nat} (hDa : ∀ σ, va_D A (wC ca ad σ)) {σ σ' : pt_St} {a0 : Int32} (ha0 : pt_iw a0) (h : f_X8_waitInLine σ a0 = some σ') : Met l yX8_waitInLine wsX8_waitInLine { frames := 0, cells := 0, slots := 0, locals := 0 } (va_Pc [.ref (ad (9 + a0.toNatClampNeg))] (pt_Pre D (tysC ca) z A (wC ca ad σ))) (pt_Q none D (wC ca ad σ') A) 0 0 A := by
  refine Met.ofW (cc := cX8_waitInLine) (maxL := 1) (ret := none) (by decide) rfl ?_
  intro p e s m args below meth c s₁ B hml hv
  obtain ⟨rfl, hP, hK, hZ⟩ := hv
  have S : CallFix p m c cX8_waitInLine 1 s ([.ref (ad (9 + a0.toNatClampNeg))] : List Value).toArray wsX8_waitInLine RX8 := ⟨B.exec, B.bytes, hml, findClass_of_methodNamed B.named, atoms_spec (ws := wsX8_waitInLine) B.pre⟩
  have hx := S.1
  have hb := S.2.1
  have hr := B.returns
  have hlk := B.notSynchronized
  clear B
  have hiX8 : ∀ w ∈ wsX80, w ∈ wsX8_waitInLine := fun w h => List.mem_cons_of_mem _ (List.mem_append_right _ h)
  have hf28 : (Cond.fieldLink RX8 28 "PackThreads$Worker" "state" "I").before _ s = true := S.2.2.2.2 _ (List.mem_of_getElem? (i := 1) rfl)
  have hS : va_S A s.heap s.heap [] := va_S.rf
  have hl := lv_entry ([.ref (ad (9 + a0.toNatClampNeg))]) (n := 1) (Nat.le_of_ble_eq_true rfl)
  rw [lg_entry_eq]
  generalize (lg_sl ([.ref (ad (9 + a0.toNatClampNeg))]) ++ List.replicate (1 - (lg_sl ([.ref (ad (9 + a0.toNatClampNeg))])).length) Slot.unset).toArray = ls at hl ⊢
  have hl : lv_has ls 1 [(0, .ref (ad (9 + a0.toNatClampNeg)))] := hl
  unfold f_X8_waitInLine at h
  refine lv_aload_n hx hb dX8_waitInLine_0 rfl (lv_at hl 0 rfl) ?_
  refine lv_iconst (v := 1) hx hb dX8_waitInLine_1 (by decide) ?_
  replace h := pt_dos h; obtain ⟨σ1, e1, h⟩ := h
  refine pf_X8_1 (pt_in_lt ha0) S hiX8 hK hP hDa hS hf28 e1 dX8_waitInLine_2 (fun H locs hP hS => ?_)
  exact pt_vret S hr hlk hP hS (congrArg (wC ca ad) (pt_so h)) dX8_waitInLine_5

def f_X5_size (σ : pt_St) : Option (Int32 × pt_St) :=
  some ((σ 2 0), σ)
set_option maxHeartbeats 4000000 in
set_option maxRecDepth 100000 in
theorem m_X5_size (l : Launch) {D : va_G} {A : Nat → Prop} {ca : Nat → ClassId} {ad : Nat → Nat} {z : Nat × Nat} (hDa : ∀ σ, va_D A (wC ca ad σ)) {σ σ' : pt_St} {r : Int32} (h : f_X5_size σ = some (r, σ')) : Met l yX5_size wsX5_size { frames := 0, cells := 0, slots := 0, locals := 0 } (va_Pc [.ref (ad 2)] (pt_Pre D (tysC ca) z A (wC ca ad σ))) (pt_Q (some (.int r)) D (wC ca ad σ') A) 0 0 A := by
  refine Met.ofW (cc := cX5_size) (maxL := 1) (ret := (some .int)) (by decide) rfl ?_
  intro p e s m args below meth c s₁ B hml hv
  obtain ⟨rfl, hP, hK, hZ⟩ := hv
  have S : CallFix p m c cX5_size 1 s ([.ref (ad 2)] : List Value).toArray wsX5_size RX5 := ⟨B.exec, B.bytes, hml, findClass_of_methodNamed B.named, atoms_spec (ws := wsX5_size) B.pre⟩
  have hx := S.1
  have hb := S.2.1
  have hr := B.returns
  have hlk := B.notSynchronized
  clear B
  have hiX5 : ∀ w ∈ wsX50, w ∈ wsX5_size := fun w h => List.mem_cons_of_mem _ (List.mem_append_right _ h)
  have hf7 : (Cond.fieldLink RX5 7 "PackThreads$Settings" "size" "I").before _ s = true := S.2.2.2.2 _ (List.mem_of_getElem? (i := 1) rfl)
  have hS : va_S A s.heap s.heap [] := va_S.rf
  have hl := lv_entry ([.ref (ad 2)]) (n := 1) (Nat.le_of_ble_eq_true rfl)
  rw [lg_entry_eq]
  generalize (lg_sl ([.ref (ad 2)]) ++ List.replicate (1 - (lg_sl ([.ref (ad 2)])).length) Slot.unset).toArray = ls at hl ⊢
  have hl : lv_has ls 1 [(0, .ref (ad 2))] := hl
  unfold f_X5_size at h
  refine lv_aload_n hx hb dX5_size_0 rfl (lv_at hl 0 rfl) ?_
  refine gf_X5_0 S hiX5 hK hP hf7 dX5_size_1 ?_
  exact pt_iret S hr hlk hP hS (pt_pr h).1 (congrArg (wC ca ad) (pt_pr h).2) dX5_size_4

def f_X7_length (σ : pt_St) : Option (Int32 × pt_St) :=
  some ((σ 1 1), σ)
set_option maxHeartbeats 4000000 in
set_option maxRecDepth 100000 in
theorem m_X7_length (l : Launch) {D : va_G} {A : Nat → Prop} {ca : Nat → ClassId} {ad : Nat → Nat} {z : Nat × Nat} (hDa : ∀ σ, va_D A (wC ca ad σ)) {σ σ' : pt_St} {r : Int32} (h : f_X7_length σ = some (r, σ')) : Met l yX7_length wsX7_length { frames := 0, cells := 0, slots := 0, locals := 0 } (va_Pc [.ref (ad 1)] (pt_Pre D (tysC ca) z A (wC ca ad σ))) (pt_Q (some (.int r)) D (wC ca ad σ') A) 0 0 A := by
  refine Met.ofW (cc := cX7_length) (maxL := 1) (ret := (some .int)) (by decide) rfl ?_
  intro p e s m args below meth c s₁ B hml hv
  obtain ⟨rfl, hP, hK, hZ⟩ := hv
  have S : CallFix p m c cX7_length 1 s ([.ref (ad 1)] : List Value).toArray wsX7_length RX7 := ⟨B.exec, B.bytes, hml, findClass_of_methodNamed B.named, atoms_spec (ws := wsX7_length) B.pre⟩
  have hx := S.1
  have hb := S.2.1
  have hr := B.returns
  have hlk := B.notSynchronized
  clear B
  have hiX7 : ∀ w ∈ wsX70, w ∈ wsX7_length := fun w h => List.mem_cons_of_mem _ (List.mem_append_right _ h)
  have hf15 : (Cond.fieldLink RX7 15 "PackThreads$Text" "length" "I").before _ s = true := S.2.2.2.2 _ (List.mem_of_getElem? (i := 1) rfl)
  have hS : va_S A s.heap s.heap [] := va_S.rf
  have hl := lv_entry ([.ref (ad 1)]) (n := 1) (Nat.le_of_ble_eq_true rfl)
  rw [lg_entry_eq]
  generalize (lg_sl ([.ref (ad 1)]) ++ List.replicate (1 - (lg_sl ([.ref (ad 1)])).length) Slot.unset).toArray = ls at hl ⊢
  have hl : lv_has ls 1 [(0, .ref (ad 1))] := hl
  unfold f_X7_length at h
  refine lv_aload_n hx hb dX7_length_0 rfl (lv_at hl 0 rfl) ?_
  refine gf_X7_1 S hiX7 hK hP hf15 dX7_length_1 ?_
  exact pt_iret S hr hlk hP hS (pt_pr h).1 (congrArg (wC ca ad) (pt_pr h).2) dX7_length_4

def f_X7_at (σ : pt_St) (a1 : Int32) : Option (Int32 × pt_St) :=
  if a1 < (0 : Int32) then
  some ((-1 : Int32), σ)
  else
  if (σ 1 1) ≤ a1 then
  some ((-1 : Int32), σ)
  else
  if (160 : Int32) ≤ a1 then
  some ((-1 : Int32), σ)
  else
  if pt_in a1 160 then
  some ((σ 15 a1.toNatClampNeg), σ)
  else none
set_option maxHeartbeats 4000000 in
set_option maxRecDepth 100000 in
theorem m_X7_at (l : Launch) {D : va_G} {A : Nat → Prop} {ca : Nat → ClassId} {ad : Nat → Nat} {z : Nat × Nat} (hDa : ∀ σ, va_D A (wC ca ad σ)) {σ σ' : pt_St} {r : Int32} {a1 : Int32} (h : f_X7_at σ a1 = some (r, σ')) : Met l yX7_at wsX7_at { frames := 0, cells := 0, slots := 0, locals := 0 } (va_Pc [.ref (ad 1), .int a1] (pt_Pre D (tysC ca) z A (wC ca ad σ))) (pt_Q (some (.int r)) D (wC ca ad σ') A) 0 0 A := by
  refine Met.ofW (cc := cX7_at) (maxL := 2) (ret := (some .int)) (by decide) rfl ?_
  intro p e s m args below meth c s₁ B hml hv
  obtain ⟨rfl, hP, hK, hZ⟩ := hv
  have S : CallFix p m c cX7_at 2 s ([.ref (ad 1), .int a1] : List Value).toArray wsX7_at RX7 := ⟨B.exec, B.bytes, hml, findClass_of_methodNamed B.named, atoms_spec (ws := wsX7_at) B.pre⟩
  have hx := S.1
  have hb := S.2.1
  have hr := B.returns
  have hlk := B.notSynchronized
  clear B
  have hiX7 : ∀ w ∈ wsX70, w ∈ wsX7_at := fun w h => List.mem_cons_of_mem _ (List.mem_append_right _ h)
  have hf15 : (Cond.fieldLink RX7 15 "PackThreads$Text" "length" "I").before _ s = true := S.2.2.2.2 _ (List.mem_of_getElem? (i := 1) rfl)
  have hf9 : (Cond.fieldLink RX7 9 "PackThreads$Text" "bytes" "[I").before _ s = true := S.2.2.2.2 _ (List.mem_of_getElem? (i := 2) rfl)
  have hS : va_S A s.heap s.heap [] := va_S.rf
  have hl := lv_entry ([.ref (ad 1), .int a1]) (n := 2) (Nat.le_of_ble_eq_true rfl)
  rw [lg_entry_eq]
  generalize (lg_sl ([.ref (ad 1), .int a1]) ++ List.replicate (2 - (lg_sl ([.ref (ad 1), .int a1])).length) Slot.unset).toArray = ls at hl ⊢
  have hl : lv_has ls 2 [(0, .ref (ad 1)), (1, .int a1)] := hl
  unfold f_X7_at at h
  refine lv_iload_n hx hb dX7_at_0 rfl (lv_at hl 1 rfl) ?_
  refine lv_if_lt (tgt := 30) hx hb dX7_at_1 (by decide) (fun c1 => ?_) (fun c1 => ?_)
  · replace h := pt_ip c1 h
    refine lv_iconst (v := -1) hx hb dX7_at_30 (by decide) ?_
    exact pt_iret S hr hlk hP hS (pt_pr h).1 (congrArg (wC ca ad) (pt_pr h).2) dX7_at_31
  · replace h := pt_iN c1 h
    refine lv_iload_n hx hb dX7_at_4 rfl (lv_at hl 1 rfl) ?_
    refine lv_aload_n hx hb dX7_at_5 rfl (lv_at hl 0 rfl) ?_
    refine gf_X7_1 S hiX7 hK hP hf15 dX7_at_6 ?_
    refine lv_icmp_ge (tgt := 30) hx hb dX7_at_9 (by decide) (fun c2 => ?_) (fun c2 => ?_)
    · replace h := pt_ip c2 h
      refine lv_iconst (v := -1) hx hb dX7_at_30 (by decide) ?_
      exact pt_iret S hr hlk hP hS (pt_pr h).1 (congrArg (wC ca ad) (pt_pr h).2) dX7_at_31
    · replace h := pt_iN c2 h
      refine lv_iload_n hx hb dX7_at_12 rfl (lv_at hl 1 rfl) ?_
      refine lv_aload_n hx hb dX7_at_13 rfl (lv_at hl 0 rfl) ?_
      refine gf_X7_0 S hiX7 hK hP hf9 dX7_at_14 ?_
      refine ln_C_15 S hK hP dX7_at_17 ?_
      refine lv_icmp_ge (tgt := 30) hx hb dX7_at_18 (by decide) (fun c3 => ?_) (fun c3 => ?_)
      · replace h := pt_ip c3 h
        refine lv_iconst (v := -1) hx hb dX7_at_30 (by decide) ?_
        exact pt_iret S hr hlk hP hS (pt_pr h).1 (congrArg (wC ca ad) (pt_pr h).2) dX7_at_31
      · replace h := pt_iN c3 h
        refine lv_aload_n hx hb dX7_at_21 rfl (lv_at hl 0 rfl) ?_
        refine gf_X7_0 S hiX7 hK hP hf9 dX7_at_22 ?_
        refine lv_iload_n hx hb dX7_at_25 rfl (lv_at hl 1 rfl) ?_
        replace h := pt_gd h; obtain ⟨g4, h⟩ := h
        refine ld_C_15 S hK hP g4 dX7_at_26 ?_
        refine lv_goto (tgt := 31) hx hb dX7_at_27 (by decide) ?_
        exact pt_iret S hr hlk hP hS (pt_pr h).1 (congrArg (wC ca ad) (pt_pr h).2) dX7_at_31

def f_X5_window (σ : pt_St) : Option (Int32 × pt_St) :=
  some ((σ 2 1), σ)
set_option maxHeartbeats 4000000 in
set_option maxRecDepth 100000 in
theorem m_X5_window (l : Launch) {D : va_G} {A : Nat → Prop} {ca : Nat → ClassId} {ad : Nat → Nat} {z : Nat × Nat} (hDa : ∀ σ, va_D A (wC ca ad σ)) {σ σ' : pt_St} {r : Int32} (h : f_X5_window σ = some (r, σ')) : Met l yX5_window wsX5_window { frames := 0, cells := 0, slots := 0, locals := 0 } (va_Pc [.ref (ad 2)] (pt_Pre D (tysC ca) z A (wC ca ad σ))) (pt_Q (some (.int r)) D (wC ca ad σ') A) 0 0 A := by
  refine Met.ofW (cc := cX5_window) (maxL := 1) (ret := (some .int)) (by decide) rfl ?_
  intro p e s m args below meth c s₁ B hml hv
  obtain ⟨rfl, hP, hK, hZ⟩ := hv
  have S : CallFix p m c cX5_window 1 s ([.ref (ad 2)] : List Value).toArray wsX5_window RX5 := ⟨B.exec, B.bytes, hml, findClass_of_methodNamed B.named, atoms_spec (ws := wsX5_window) B.pre⟩
  have hx := S.1
  have hb := S.2.1
  have hr := B.returns
  have hlk := B.notSynchronized
  clear B
  have hiX5 : ∀ w ∈ wsX50, w ∈ wsX5_window := fun w h => List.mem_cons_of_mem _ (List.mem_append_right _ h)
  have hf13 : (Cond.fieldLink RX5 13 "PackThreads$Settings" "window" "I").before _ s = true := S.2.2.2.2 _ (List.mem_of_getElem? (i := 1) rfl)
  have hS : va_S A s.heap s.heap [] := va_S.rf
  have hl := lv_entry ([.ref (ad 2)]) (n := 1) (Nat.le_of_ble_eq_true rfl)
  rw [lg_entry_eq]
  generalize (lg_sl ([.ref (ad 2)]) ++ List.replicate (1 - (lg_sl ([.ref (ad 2)])).length) Slot.unset).toArray = ls at hl ⊢
  have hl : lv_has ls 1 [(0, .ref (ad 2))] := hl
  unfold f_X5_window at h
  refine lv_aload_n hx hb dX5_window_0 rfl (lv_at hl 0 rfl) ?_
  refine gf_X5_1 S hiX5 hK hP hf13 dX5_window_1 ?_
  exact pt_iret S hr hlk hP hS (pt_pr h).1 (congrArg (wC ca ad) (pt_pr h).2) dX5_window_4

def f_X3_put (σ : pt_St) (a1 : Int32) (a2 : Int32) (a3 : Int32) (a4 : Int32) : Option pt_St :=
  if a1 < (0 : Int32) then
  some σ
  else
  if (40 : Int32) ≤ a1 then
  some σ
  else
  if pt_in a1 40 then
  pt_do (pt_put σ 16 a1.toNatClampNeg a2) fun σ4 =>
  pt_do (pt_put σ4 17 a1.toNatClampNeg a3) fun σ5 =>
  pt_do (pt_put σ5 18 a1.toNatClampNeg (vp_nar .boolean a4)) fun σ6 =>
  some σ6
  else none
set_option maxHeartbeats 4000000 in
set_option maxRecDepth 100000 in
theorem m_X3_put (l : Launch) {D : va_G} {A : Nat → Prop} {ca : Nat → ClassId} {ad : Nat → Nat} {z : Nat × Nat} (hDa : ∀ σ, va_D A (wC ca ad σ)) {σ σ' : pt_St} {a1 : Int32} {a2 : Int32} {a3 : Int32} {a4 : Int32} (h : f_X3_put σ a1 a2 a3 a4 = some σ') : Met l yX3_put wsX3_put { frames := 0, cells := 0, slots := 0, locals := 0 } (va_Pc [.ref (ad 3), .int a1, .int a2, .int a3, .int a4] (pt_Pre D (tysC ca) z A (wC ca ad σ))) (pt_Q none D (wC ca ad σ') A) 0 0 A := by
  refine Met.ofW (cc := cX3_put) (maxL := 5) (ret := none) (by decide) rfl ?_
  intro p e s m args below meth c s₁ B hml hv
  obtain ⟨rfl, hP, hK, hZ⟩ := hv
  have S : CallFix p m c cX3_put 5 s ([.ref (ad 3), .int a1, .int a2, .int a3, .int a4] : List Value).toArray wsX3_put RX3 := ⟨B.exec, B.bytes, hml, findClass_of_methodNamed B.named, atoms_spec (ws := wsX3_put) B.pre⟩
  have hx := S.1
  have hb := S.2.1
  have hr := B.returns
  have hlk := B.notSynchronized
  clear B
  have hiX3 : ∀ w ∈ wsX30, w ∈ wsX3_put := fun w h => List.mem_cons_of_mem _ (List.mem_append_right _ h)
  have hf9 : (Cond.fieldLink RX3 9 "PackThreads$Plants" "steps" "[I").before _ s = true := S.2.2.2.2 _ (List.mem_of_getElem? (i := 1) rfl)
  have hf15 : (Cond.fieldLink RX3 15 "PackThreads$Plants" "kinds" "[I").before _ s = true := S.2.2.2.2 _ (List.mem_of_getElem? (i := 2) rfl)
  have hf18 : (Cond.fieldLink RX3 18 "PackThreads$Plants" "forTwice" "[Z").before _ s = true := S.2.2.2.2 _ (List.mem_of_getElem? (i := 3) rfl)
  have hS : va_S A s.heap s.heap [] := va_S.rf
  have hl := lv_entry ([.ref (ad 3), .int a1, .int a2, .int a3, .int a4]) (n := 5) (Nat.le_of_ble_eq_true rfl)
  rw [lg_entry_eq]
  generalize (lg_sl ([.ref (ad 3), .int a1, .int a2, .int a3, .int a4]) ++ List.replicate (5 - (lg_sl ([.ref (ad 3), .int a1, .int a2, .int a3, .int a4])).length) Slot.unset).toArray = ls at hl ⊢
  have hl : lv_has ls 5 [(0, .ref (ad 3)), (1, .int a1), (2, .int a2), (3, .int a3), (4, .int a4)] := hl
  unfold f_X3_put at h
  refine lv_iload_n hx hb dX3_put_0 rfl (lv_at hl 1 rfl) ?_
  refine lv_if_lt (tgt := 32) hx hb dX3_put_1 (by decide) (fun c1 => ?_) (fun c1 => ?_)
  · replace h := pt_ip c1 h
    exact pt_vret S hr hlk hP hS (congrArg (wC ca ad) (pt_so h)) dX3_put_32
  · replace h := pt_iN c1 h
    refine lv_iload_n hx hb dX3_put_4 rfl (lv_at hl 1 rfl) ?_
    refine lv_bipush (v := 40) hx hb dX3_put_5 (by decide) ?_
    refine lv_icmp_ge (tgt := 32) hx hb dX3_put_7 (by decide) (fun c2 => ?_) (fun c2 => ?_)
    · replace h := pt_ip c2 h
      exact pt_vret S hr hlk hP hS (congrArg (wC ca ad) (pt_so h)) dX3_put_32
    · replace h := pt_iN c2 h
      refine lv_aload_n hx hb dX3_put_10 rfl (lv_at hl 0 rfl) ?_
      refine gf_X3_0 S hiX3 hK hP hf9 dX3_put_11 ?_
      refine lv_iload_n hx hb dX3_put_14 rfl (lv_at hl 1 rfl) ?_
      refine lv_iload_n hx hb dX3_put_15 rfl (lv_at hl 2 rfl) ?_
      replace h := pt_gd h; obtain ⟨g3, h⟩ := h
      replace h := pt_dos h; obtain ⟨σ4, e4, h⟩ := h
      refine st_C_16 S hK hP hDa hS g3 e4 dX3_put_16 (fun H locs hP hS => ?_)
      refine lv_aload_n hx hb dX3_put_17 rfl (lv_at hl 0 rfl) ?_
      refine gf_X3_1 S hiX3 hK hP hf15 dX3_put_18 ?_
      refine lv_iload_n hx hb dX3_put_21 rfl (lv_at hl 1 rfl) ?_
      refine lv_iload_n hx hb dX3_put_22 rfl (lv_at hl 3 rfl) ?_
      replace h := pt_dos h; obtain ⟨σ5, e5, h⟩ := h
      refine st_C_17 S hK hP hDa hS g3 e5 dX3_put_23 (fun H locs hP hS => ?_)
      refine lv_aload_n hx hb dX3_put_24 rfl (lv_at hl 0 rfl) ?_
      refine gf_X3_2 S hiX3 hK hP hf18 dX3_put_25 ?_
      refine lv_iload_n hx hb dX3_put_28 rfl (lv_at hl 1 rfl) ?_
      refine lv_iload hx hb dX3_put_29 (lv_at hl 4 rfl) ?_
      replace h := pt_dos h; obtain ⟨σ6, e6, h⟩ := h
      refine st_C_18 S hK hP hDa hS g3 e6 dX3_put_31 (fun H locs hP hS => ?_)
      exact pt_vret S hr hlk hP hS (congrArg (wC ca ad) (pt_so h)) dX3_put_32

def f_X3_kindAt (σ : pt_St) (a1 : Int32) (a2 : Int32) (a3 : Int32) : Option (Int32 × pt_St) :=
  if a1 < (0 : Int32) then
  some ((0 : Int32), σ)
  else
  if (40 : Int32) ≤ a1 then
  some ((0 : Int32), σ)
  else
  if pt_in a1 40 then
  if (σ 16 a1.toNatClampNeg) = a2 then
  if a3 = (0 : Int32) then
  some ((σ 17 a1.toNatClampNeg), σ)
  else
  if (σ 18 a1.toNatClampNeg) = (0 : Int32) then
  some ((0 : Int32), σ)
  else
  some ((σ 17 a1.toNatClampNeg), σ)
  else
  some ((0 : Int32), σ)
  else none
set_option maxHeartbeats 4000000 in
set_option maxRecDepth 100000 in
theorem m_X3_kindAt (l : Launch) {D : va_G} {A : Nat → Prop} {ca : Nat → ClassId} {ad : Nat → Nat} {z : Nat × Nat} (hDa : ∀ σ, va_D A (wC ca ad σ)) {σ σ' : pt_St} {r : Int32} {a1 : Int32} {a2 : Int32} {a3 : Int32} (h : f_X3_kindAt σ a1 a2 a3 = some (r, σ')) : Met l yX3_kindAt wsX3_kindAt { frames := 0, cells := 0, slots := 0, locals := 0 } (va_Pc [.ref (ad 3), .int a1, .int a2, .int a3] (pt_Pre D (tysC ca) z A (wC ca ad σ))) (pt_Q (some (.int r)) D (wC ca ad σ') A) 0 0 A := by
  refine Met.ofW (cc := cX3_kindAt) (maxL := 4) (ret := (some .int)) (by decide) rfl ?_
  intro p e s m args below meth c s₁ B hml hv
  obtain ⟨rfl, hP, hK, hZ⟩ := hv
  have S : CallFix p m c cX3_kindAt 4 s ([.ref (ad 3), .int a1, .int a2, .int a3] : List Value).toArray wsX3_kindAt RX3 := ⟨B.exec, B.bytes, hml, findClass_of_methodNamed B.named, atoms_spec (ws := wsX3_kindAt) B.pre⟩
  have hx := S.1
  have hb := S.2.1
  have hr := B.returns
  have hlk := B.notSynchronized
  clear B
  have hiX3 : ∀ w ∈ wsX30, w ∈ wsX3_kindAt := fun w h => List.mem_cons_of_mem _ (List.mem_append_right _ h)
  have hf9 : (Cond.fieldLink RX3 9 "PackThreads$Plants" "steps" "[I").before _ s = true := S.2.2.2.2 _ (List.mem_of_getElem? (i := 1) rfl)
  have hf15 : (Cond.fieldLink RX3 15 "PackThreads$Plants" "kinds" "[I").before _ s = true := S.2.2.2.2 _ (List.mem_of_getElem? (i := 3) rfl)
  have hf18 : (Cond.fieldLink RX3 18 "PackThreads$Plants" "forTwice" "[Z").before _ s = true := S.2.2.2.2 _ (List.mem_of_getElem? (i := 2) rfl)
  have hS : va_S A s.heap s.heap [] := va_S.rf
  have hl := lv_entry ([.ref (ad 3), .int a1, .int a2, .int a3]) (n := 4) (Nat.le_of_ble_eq_true rfl)
  rw [lg_entry_eq]
  generalize (lg_sl ([.ref (ad 3), .int a1, .int a2, .int a3]) ++ List.replicate (4 - (lg_sl ([.ref (ad 3), .int a1, .int a2, .int a3])).length) Slot.unset).toArray = ls at hl ⊢
  have hl : lv_has ls 4 [(0, .ref (ad 3)), (1, .int a1), (2, .int a2), (3, .int a3)] := hl
  unfold f_X3_kindAt at h
  refine lv_iload_n hx hb dX3_kindAt_0 rfl (lv_at hl 1 rfl) ?_
  refine lv_if_lt (tgt := 20) hx hb dX3_kindAt_1 (by decide) (fun c1 => ?_) (fun c1 => ?_)
  · replace h := pt_ip c1 h
    refine lv_iconst (v := 0) hx hb dX3_kindAt_20 (by decide) ?_
    exact pt_iret S hr hlk hP hS (pt_pr h).1 (congrArg (wC ca ad) (pt_pr h).2) dX3_kindAt_21
  · replace h := pt_iN c1 h
    refine lv_iload_n hx hb dX3_kindAt_4 rfl (lv_at hl 1 rfl) ?_
    refine lv_bipush (v := 40) hx hb dX3_kindAt_5 (by decide) ?_
    refine lv_icmp_ge (tgt := 20) hx hb dX3_kindAt_7 (by decide) (fun c2 => ?_) (fun c2 => ?_)
    · replace h := pt_ip c2 h
      refine lv_iconst (v := 0) hx hb dX3_kindAt_20 (by decide) ?_
      exact pt_iret S hr hlk hP hS (pt_pr h).1 (congrArg (wC ca ad) (pt_pr h).2) dX3_kindAt_21
    · replace h := pt_iN c2 h
      refine lv_aload_n hx hb dX3_kindAt_10 rfl (lv_at hl 0 rfl) ?_
      refine gf_X3_0 S hiX3 hK hP hf9 dX3_kindAt_11 ?_
      refine lv_iload_n hx hb dX3_kindAt_14 rfl (lv_at hl 1 rfl) ?_
      replace h := pt_gd h; obtain ⟨g3, h⟩ := h
      refine ld_C_16 S hK hP g3 dX3_kindAt_15 ?_
      refine lv_iload_n hx hb dX3_kindAt_16 rfl (lv_at hl 2 rfl) ?_
      refine lv_icmp_eq (tgt := 22) hx hb dX3_kindAt_17 (by decide) (fun c4 => ?_) (fun c4 => ?_)
      · replace h := pt_ip c4 h
        refine lv_iload_n hx hb dX3_kindAt_22 rfl (lv_at hl 3 rfl) ?_
        refine lv_if_eq (tgt := 39) hx hb dX3_kindAt_23 (by decide) (fun c5 => ?_) (fun c5 => ?_)
        · replace h := pt_ip c5 h
          refine lv_aload_n hx hb dX3_kindAt_39 rfl (lv_at hl 0 rfl) ?_
          refine gf_X3_1 S hiX3 hK hP hf15 dX3_kindAt_40 ?_
          refine lv_iload_n hx hb dX3_kindAt_43 rfl (lv_at hl 1 rfl) ?_
          refine ld_C_17 S hK hP g3 dX3_kindAt_44 ?_
          exact pt_iret S hr hlk hP hS (pt_pr h).1 (congrArg (wC ca ad) (pt_pr h).2) dX3_kindAt_45
        · replace h := pt_iN c5 h
          refine lv_aload_n hx hb dX3_kindAt_26 rfl (lv_at hl 0 rfl) ?_
          refine gf_X3_2 S hiX3 hK hP hf18 dX3_kindAt_27 ?_
          refine lv_iload_n hx hb dX3_kindAt_30 rfl (lv_at hl 1 rfl) ?_
          refine ld_C_18 S hK hP g3 dX3_kindAt_31 ?_
          refine lv_if_ne (tgt := 39) hx hb dX3_kindAt_32 (by decide) (fun c6 => ?_) (fun c6 => ?_)
          · replace h := pt_iN c6 h
            refine lv_aload_n hx hb dX3_kindAt_39 rfl (lv_at hl 0 rfl) ?_
            refine gf_X3_1 S hiX3 hK hP hf15 dX3_kindAt_40 ?_
            refine lv_iload_n hx hb dX3_kindAt_43 rfl (lv_at hl 1 rfl) ?_
            refine ld_C_17 S hK hP g3 dX3_kindAt_44 ?_
            exact pt_iret S hr hlk hP hS (pt_pr h).1 (congrArg (wC ca ad) (pt_pr h).2) dX3_kindAt_45
          · replace h := pt_ip c6 h
            refine lv_iconst (v := 0) hx hb dX3_kindAt_35 (by decide) ?_
            refine lv_goto (tgt := 45) hx hb dX3_kindAt_36 (by decide) ?_
            exact pt_iret S hr hlk hP hS (pt_pr h).1 (congrArg (wC ca ad) (pt_pr h).2) dX3_kindAt_45
      · replace h := pt_iN c4 h
        refine lv_iconst (v := 0) hx hb dX3_kindAt_20 (by decide) ?_
        exact pt_iret S hr hlk hP hS (pt_pr h).1 (congrArg (wC ca ad) (pt_pr h).2) dX3_kindAt_21

def lp_X3_removeAll_2 (k : pt_St → Int32 → Option pt_St) : Nat → pt_St → Int32 → Option pt_St
  | 0, _, _ => none
  | n + 1, σ, x1 =>
    if (40 : Int32) ≤ x1 then
    k σ x1
    else
    if pt_in x1 40 then
    pt_do (pt_put σ 17 x1.toNatClampNeg (0 : Int32)) fun σ3003 =>
    lp_X3_removeAll_2 k n σ3003 (x1 + (1 : Int32))
    else none
def kx_X3_removeAll_2 (σ : pt_St) (x1 : Int32) : Option pt_St :=
  some σ
def f_X3_removeAll (σ : pt_St) : Option pt_St :=
  lp_X3_removeAll_2 (kx_X3_removeAll_2) pt_F σ (0 : Int32)
set_option maxHeartbeats 4000000 in
set_option maxRecDepth 100000 in
theorem m_X3_removeAll (l : Launch) {D : va_G} {A : Nat → Prop} {ca : Nat → ClassId} {ad : Nat → Nat} {z : Nat × Nat} (hDa : ∀ σ, va_D A (wC ca ad σ)) {σ σ' : pt_St} (h : f_X3_removeAll σ = some σ') : Met l yX3_removeAll wsX3_removeAll { frames := 0, cells := 0, slots := 0, locals := 0 } (va_Pc [.ref (ad 3)] (pt_Pre D (tysC ca) z A (wC ca ad σ))) (pt_Q none D (wC ca ad σ') A) 0 0 A := by
  refine Met.ofW (cc := cX3_removeAll) (maxL := 2) (ret := none) (by decide) rfl ?_
  intro p e s m args below meth c s₁ B hml hv
  obtain ⟨rfl, hP, hK, hZ⟩ := hv
  have S : CallFix p m c cX3_removeAll 2 s ([.ref (ad 3)] : List Value).toArray wsX3_removeAll RX3 := ⟨B.exec, B.bytes, hml, findClass_of_methodNamed B.named, atoms_spec (ws := wsX3_removeAll) B.pre⟩
  have hx := S.1
  have hb := S.2.1
  have hr := B.returns
  have hlk := B.notSynchronized
  clear B
  have hiX3 : ∀ w ∈ wsX30, w ∈ wsX3_removeAll := fun w h => List.mem_cons_of_mem _ (List.mem_append_right _ h)
  have hf15 : (Cond.fieldLink RX3 15 "PackThreads$Plants" "kinds" "[I").before _ s = true := S.2.2.2.2 _ (List.mem_of_getElem? (i := 1) rfl)
  have hS : va_S A s.heap s.heap [] := va_S.rf
  have hl := lv_entry ([.ref (ad 3)]) (n := 2) (Nat.le_of_ble_eq_true rfl)
  rw [lg_entry_eq]
  generalize (lg_sl ([.ref (ad 3)]) ++ List.replicate (2 - (lg_sl ([.ref (ad 3)])).length) Slot.unset).toArray = ls at hl ⊢
  have hl : lv_has ls 2 [(0, .ref (ad 3))] := hl
  unfold f_X3_removeAll at h
  refine lv_iconst (v := 0) hx hb dX3_removeAll_0 (by decide) ?_
  refine lv_istore_n (lv' := [(1, .int (0 : Int32)), (0, .ref (ad 3))]) hx hb dX3_removeAll_1 rfl hl (by decide) rfl (fun ls hl => ?_)
  have X2 : ∀ (σ : pt_St) (x1 : Int32), kx_X3_removeAll_2 σ x1 = some σ' → ∀ (H : Heap) (locs : List Loc) (ls : Array Slot), va_P D vwCl (wC ca ad σ) H → va_S A s.heap H locs → lv_has ls 2 [(0, .ref (ad 3)), (1, .int x1)] → W p l e (headSpec wsX3_removeAll { frames := 0, cells := 0, slots := 0, locals := 0 }).room s m ([.ref (ad 3)] : List Value).toArray below meth c H locs 0 0 (MQ below (pt_Q none D (wC ca ad σ') A) ([.ref (ad 3)] : List Value).toArray s 0 0 A) (F0 m 21 ls []) := by
    intro σ x1 h H locs ls hP hS hl
    unfold kx_X3_removeAll_2 at h
    exact pt_vret S hr hlk hP hS (congrArg (wC ca ad) (pt_so h)) dX3_removeAll_21
  have L2 : ∀ (n : Nat) (σ : pt_St) (x1 : Int32),  lp_X3_removeAll_2 (kx_X3_removeAll_2) n σ x1 = some σ' → ∀ (H : Heap) (locs : List Loc) (ls : Array Slot), va_P D vwCl (wC ca ad σ) H → va_S A s.heap H locs → lv_has ls 2 [(0, .ref (ad 3)), (1, .int x1)] → W p l e (headSpec wsX3_removeAll { frames := 0, cells := 0, slots := 0, locals := 0 }).room s m ([.ref (ad 3)] : List Value).toArray below meth c H locs 0 0 (MQ below (pt_Q none D (wC ca ad σ') A) ([.ref (ad 3)] : List Value).toArray s 0 0 A) (F0 m 2 ls []) := by
    intro n
    induction n with
    | zero => intro σ x1 h; cases h
    | succ n ih0 =>
      intro σ x1 h H locs ls hP hS hl
      rw [lp_X3_removeAll_2] at h
      refine lv_iload_n hx hb dX3_removeAll_2 rfl (lv_at hl 1 rfl) ?_
      refine lv_bipush (v := 40) hx hb dX3_removeAll_3 (by decide) ?_
      refine lv_icmp_ge (tgt := 21) hx hb dX3_removeAll_5 (by decide) (fun c3001 => ?_) (fun c3001 => ?_)
      · replace h := pt_ip c3001 h
        exact X2 _ _ h _ _ _ hP hS (lv_sub hl [0, 1] rfl)
      · replace h := pt_iN c3001 h
        refine lv_aload_n hx hb dX3_removeAll_8 rfl (lv_at hl 0 rfl) ?_
        refine gf_X3_1 S hiX3 hK hP hf15 dX3_removeAll_9 ?_
        refine lv_iload_n hx hb dX3_removeAll_12 rfl (lv_at hl 1 rfl) ?_
        refine lv_iconst (v := 0) hx hb dX3_removeAll_13 (by decide) ?_
        replace h := pt_gd h; obtain ⟨g3002, h⟩ := h
        replace h := pt_dos h; obtain ⟨σ3003, e3003, h⟩ := h
        refine st_C_17 S hK hP hDa hS g3002 e3003 dX3_removeAll_14 (fun H locs hP hS => ?_)
        refine lv_iinc (v := x1 + (1 : Int32)) (lv' := [(1, .int (x1 + (1 : Int32))), (0, .ref (ad 3))]) hx hb dX3_removeAll_15 hl (k := 1) rfl rfl (by decide) rfl (fun ls hl => ?_)
        refine lv_goto (tgt := 2) hx hb dX3_removeAll_18 (by decide) ?_
        exact ih0 _ _ h _ _ _ hP hS (lv_sub hl [1, 0] rfl)
  exact L2 _ _ _ h _ _ _ hP hS (lv_sub hl [1, 0] rfl)

def lp_X4_renew_2 (k : pt_St → Int32 → Option pt_St) (a1 : Int32) : Nat → pt_St → Int32 → Option pt_St
  | 0, _, _ => none
  | n + 1, σ, x2 =>
    if (40 : Int32) ≤ x2 then
    k σ x2
    else
    if pt_in x2 40 then
    pt_do (pt_put σ 24 x2.toNatClampNeg (vp_nar .boolean (0 : Int32))) fun σ3003 =>
    lp_X4_renew_2 k a1 n σ3003 (x2 + (1 : Int32))
    else none
def kx_X4_renew_2 (a1 : Int32) (σ : pt_St) (x2 : Int32) : Option pt_St :=
  pt_do (pt_put σ 7 1 (0 : Int32)) fun σ3501 =>
  pt_do (pt_put σ3501 7 2 a1) fun σ3502 =>
  pt_do (pt_put σ3502 7 3 (0 : Int32)) fun σ3503 =>
  some σ3503
def f_X4_renew (σ : pt_St) (a1 : Int32) : Option pt_St :=
  lp_X4_renew_2 (kx_X4_renew_2 a1) a1 pt_F σ (0 : Int32)
set_option maxHeartbeats 4000000 in
set_option maxRecDepth 100000 in
theorem m_X4_renew (l : Launch) {D : va_G} {A : Nat → Prop} {ca : Nat → ClassId} {ad : Nat → Nat} {z : Nat × Nat} (hDa : ∀ σ, va_D A (wC ca ad σ)) {σ σ' : pt_St} {a1 : Int32} (h : f_X4_renew σ a1 = some σ') : Met l yX4_renew wsX4_renew { frames := 0, cells := 0, slots := 0, locals := 0 } (va_Pc [.ref (ad 7), .int a1] (pt_Pre D (tysC ca) z A (wC ca ad σ))) (pt_Q none D (wC ca ad σ') A) 0 0 A := by
  refine Met.ofW (cc := cX4_renew) (maxL := 3) (ret := none) (by decide) rfl ?_
  intro p e s m args below meth c s₁ B hml hv
  obtain ⟨rfl, hP, hK, hZ⟩ := hv
  have S : CallFix p m c cX4_renew 3 s ([.ref (ad 7), .int a1] : List Value).toArray wsX4_renew RX4 := ⟨B.exec, B.bytes, hml, findClass_of_methodNamed B.named, atoms_spec (ws := wsX4_renew) B.pre⟩
  have hx := S.1
  have hb := S.2.1
  have hr := B.returns
  have hlk := B.notSynchronized
  clear B
  have hiX4 : ∀ w ∈ wsX40, w ∈ wsX4_renew := fun w h => List.mem_cons_of_mem _ (List.mem_append_right _ h)
  have hf9 : (Cond.fieldLink RX4 9 "PackThreads$Row" "kept" "[Z").before _ s = true := S.2.2.2.2 _ (List.mem_of_getElem? (i := 1) rfl)
  have hf15 : (Cond.fieldLink RX4 15 "PackThreads$Row" "packs" "I").before _ s = true := S.2.2.2.2 _ (List.mem_of_getElem? (i := 2) rfl)
  have hf19 : (Cond.fieldLink RX4 19 "PackThreads$Row" "limit" "I").before _ s = true := S.2.2.2.2 _ (List.mem_of_getElem? (i := 3) rfl)
  have hf22 : (Cond.fieldLink RX4 22 "PackThreads$Row" "joined" "I").before _ s = true := S.2.2.2.2 _ (List.mem_of_getElem? (i := 4) rfl)
  have hS : va_S A s.heap s.heap [] := va_S.rf
  have hl := lv_entry ([.ref (ad 7), .int a1]) (n := 3) (Nat.le_of_ble_eq_true rfl)
  rw [lg_entry_eq]
  generalize (lg_sl ([.ref (ad 7), .int a1]) ++ List.replicate (3 - (lg_sl ([.ref (ad 7), .int a1])).length) Slot.unset).toArray = ls at hl ⊢
  have hl : lv_has ls 3 [(0, .ref (ad 7)), (1, .int a1)] := hl
  unfold f_X4_renew at h
  refine lv_iconst (v := 0) hx hb dX4_renew_0 (by decide) ?_
  refine lv_istore_n (lv' := [(2, .int (0 : Int32)), (0, .ref (ad 7)), (1, .int a1)]) hx hb dX4_renew_1 rfl hl (by decide) rfl (fun ls hl => ?_)
  have X2 : ∀ (σ : pt_St) (x2 : Int32), kx_X4_renew_2 a1 σ x2 = some σ' → ∀ (H : Heap) (locs : List Loc) (ls : Array Slot), va_P D vwCl (wC ca ad σ) H → va_S A s.heap H locs → lv_has ls 3 [(0, .ref (ad 7)), (1, .int a1), (2, .int x2)] → W p l e (headSpec wsX4_renew { frames := 0, cells := 0, slots := 0, locals := 0 }).room s m ([.ref (ad 7), .int a1] : List Value).toArray below meth c H locs 0 0 (MQ below (pt_Q none D (wC ca ad σ') A) ([.ref (ad 7), .int a1] : List Value).toArray s 0 0 A) (F0 m 24 ls []) := by
    intro σ x2 h H locs ls hP hS hl
    unfold kx_X4_renew_2 at h
    refine lv_aload_n hx hb dX4_renew_24 rfl (lv_at hl 0 rfl) ?_
    refine lv_iconst (v := 0) hx hb dX4_renew_25 (by decide) ?_
    replace h := pt_dos h; obtain ⟨σ3501, e3501, h⟩ := h
    refine pf_X4_1 S hiX4 hK hP hDa hS hf15 e3501 dX4_renew_26 (fun H locs hP hS => ?_)
    refine lv_aload_n hx hb dX4_renew_29 rfl (lv_at hl 0 rfl) ?_
    refine lv_iload_n hx hb dX4_renew_30 rfl (lv_at hl 1 rfl) ?_
    replace h := pt_dos h; obtain ⟨σ3502, e3502, h⟩ := h
    refine pf_X4_2 S hiX4 hK hP hDa hS hf19 e3502 dX4_renew_31 (fun H locs hP hS => ?_)
    refine lv_aload_n hx hb dX4_renew_34 rfl (lv_at hl 0 rfl) ?_
    refine lv_iconst (v := 0) hx hb dX4_renew_35 (by decide) ?_
    replace h := pt_dos h; obtain ⟨σ3503, e3503, h⟩ := h
    refine pf_X4_3 S hiX4 hK hP hDa hS hf22 e3503 dX4_renew_36 (fun H locs hP hS => ?_)
    exact pt_vret S hr hlk hP hS (congrArg (wC ca ad) (pt_so h)) dX4_renew_39
  have L2 : ∀ (n : Nat) (σ : pt_St) (x2 : Int32),  lp_X4_renew_2 (kx_X4_renew_2 a1) a1 n σ x2 = some σ' → ∀ (H : Heap) (locs : List Loc) (ls : Array Slot), va_P D vwCl (wC ca ad σ) H → va_S A s.heap H locs → lv_has ls 3 [(0, .ref (ad 7)), (1, .int a1), (2, .int x2)] → W p l e (headSpec wsX4_renew { frames := 0, cells := 0, slots := 0, locals := 0 }).room s m ([.ref (ad 7), .int a1] : List Value).toArray below meth c H locs 0 0 (MQ below (pt_Q none D (wC ca ad σ') A) ([.ref (ad 7), .int a1] : List Value).toArray s 0 0 A) (F0 m 2 ls []) := by
    intro n
    induction n with
    | zero => intro σ x2 h; cases h
    | succ n ih0 =>
      intro σ x2 h H locs ls hP hS hl
      rw [lp_X4_renew_2] at h
      refine lv_iload_n hx hb dX4_renew_2 rfl (lv_at hl 2 rfl) ?_
      refine lv_aload_n hx hb dX4_renew_3 rfl (lv_at hl 0 rfl) ?_
      refine gf_X4_0 S hiX4 hK hP hf9 dX4_renew_4 ?_
      refine ln_C_24 S hK hP dX4_renew_7 ?_
      refine lv_icmp_ge (tgt := 24) hx hb dX4_renew_8 (by decide) (fun c3001 => ?_) (fun c3001 => ?_)
      · replace h := pt_ip c3001 h
        exact X2 _ _ h _ _ _ hP hS (lv_sub hl [0, 1, 2] rfl)
      · replace h := pt_iN c3001 h
        refine lv_aload_n hx hb dX4_renew_11 rfl (lv_at hl 0 rfl) ?_
        refine gf_X4_0 S hiX4 hK hP hf9 dX4_renew_12 ?_
        refine lv_iload_n hx hb dX4_renew_15 rfl (lv_at hl 2 rfl) ?_
        refine lv_iconst (v := 0) hx hb dX4_renew_16 (by decide) ?_
        replace h := pt_gd h; obtain ⟨g3002, h⟩ := h
        replace h := pt_dos h; obtain ⟨σ3003, e3003, h⟩ := h
        refine st_C_24 S hK hP hDa hS g3002 e3003 dX4_renew_17 (fun H locs hP hS => ?_)
        refine lv_iinc (v := x2 + (1 : Int32)) (lv' := [(2, .int (x2 + (1 : Int32))), (0, .ref (ad 7)), (1, .int a1)]) hx hb dX4_renew_18 hl (k := 2) rfl rfl (by decide) rfl (fun ls hl => ?_)
        refine lv_goto (tgt := 2) hx hb dX4_renew_21 (by decide) ?_
        exact ih0 _ _ h _ _ _ hP hS (lv_sub hl [1, 2, 0] rfl)
  exact L2 _ _ _ h _ _ _ hP hS (lv_sub hl [1, 2, 0] rfl)

def lp_X4_lay_51 (k : pt_St → Option (Int32 × pt_St)) (a1 : Int32) : Nat → pt_St → Option (Int32 × pt_St)
  | 0, _ => none
  | n + 1, σ =>
    if (σ 7 3) < (0 : Int32) then
    k σ
    else
    if (40 : Int32) ≤ (σ 7 3) then
    k σ
    else
    if pt_in (σ 7 3) 40 then
    if (σ 24 (σ 7 3).toNatClampNeg) = (0 : Int32) then
    k σ
    else
    pt_do (pt_put σ 24 (σ 7 3).toNatClampNeg (vp_nar .boolean (0 : Int32))) fun σ52005 =>
    pt_do (pt_put σ52005 7 1 ((σ52005 7 1) - (1 : Int32))) fun σ52006 =>
    pt_do (pt_put σ52006 7 3 ((σ52006 7 3) + (1 : Int32))) fun σ52007 =>
    lp_X4_lay_51 k a1 n σ52007
    else none
def kx_X4_lay_51 (a1 : Int32) (σ : pt_St) : Option (Int32 × pt_St) :=
  some ((1 : Int32), σ)
def f_X4_lay (σ : pt_St) (a1 : Int32) : Option (Int32 × pt_St) :=
  if a1 < (0 : Int32) then
  some ((0 : Int32), σ)
  else
  if (40 : Int32) ≤ a1 then
  some ((0 : Int32), σ)
  else
  if a1 = (σ 7 3) then
  if pt_in a1 40 then
  pt_do (pt_put σ 24 a1.toNatClampNeg (vp_nar .boolean (1 : Int32))) fun σ5 =>
  pt_do (pt_put σ5 7 1 ((σ5 7 1) + (1 : Int32))) fun σ6 =>
  lp_X4_lay_51 (kx_X4_lay_51 a1) a1 pt_F σ6
  else none
  else
  if (σ 7 1) < (σ 7 2) then
  if pt_in a1 40 then
  pt_do (pt_put σ 24 a1.toNatClampNeg (vp_nar .boolean (1 : Int32))) fun σ9 =>
  pt_do (pt_put σ9 7 1 ((σ9 7 1) + (1 : Int32))) fun σ10 =>
  lp_X4_lay_51 (kx_X4_lay_51 a1) a1 pt_F σ10
  else none
  else
  some ((0 : Int32), σ)
set_option maxHeartbeats 4000000 in
set_option maxRecDepth 100000 in
theorem m_X4_lay (l : Launch) {D : va_G} {A : Nat → Prop} {ca : Nat → ClassId} {ad : Nat → Nat} {z : Nat × Nat} (hDa : ∀ σ, va_D A (wC ca ad σ)) {σ σ' : pt_St} {r : Int32} {a1 : Int32} (h : f_X4_lay σ a1 = some (r, σ')) : Met l yX4_lay wsX4_lay { frames := 0, cells := 0, slots := 0, locals := 0 } (va_Pc [.ref (ad 7), .int a1] (pt_Pre D (tysC ca) z A (wC ca ad σ))) (pt_Q (some (.int r)) D (wC ca ad σ') A) 0 0 A := by
  refine Met.ofW (cc := cX4_lay) (maxL := 2) (ret := (some .boolean)) (by decide) rfl ?_
  intro p e s m args below meth c s₁ B hml hv
  obtain ⟨rfl, hP, hK, hZ⟩ := hv
  have S : CallFix p m c cX4_lay 2 s ([.ref (ad 7), .int a1] : List Value).toArray wsX4_lay RX4 := ⟨B.exec, B.bytes, hml, findClass_of_methodNamed B.named, atoms_spec (ws := wsX4_lay) B.pre⟩
  have hx := S.1
  have hb := S.2.1
  have hr := B.returns
  have hlk := B.notSynchronized
  clear B
  have hiX4 : ∀ w ∈ wsX40, w ∈ wsX4_lay := fun w h => List.mem_cons_of_mem _ (List.mem_append_right _ h)
  have hf9 : (Cond.fieldLink RX4 9 "PackThreads$Row" "kept" "[Z").before _ s = true := S.2.2.2.2 _ (List.mem_of_getElem? (i := 1) rfl)
  have hf22 : (Cond.fieldLink RX4 22 "PackThreads$Row" "joined" "I").before _ s = true := S.2.2.2.2 _ (List.mem_of_getElem? (i := 2) rfl)
  have hf15 : (Cond.fieldLink RX4 15 "PackThreads$Row" "packs" "I").before _ s = true := S.2.2.2.2 _ (List.mem_of_getElem? (i := 3) rfl)
  have hf19 : (Cond.fieldLink RX4 19 "PackThreads$Row" "limit" "I").before _ s = true := S.2.2.2.2 _ (List.mem_of_getElem? (i := 4) rfl)
  have hS : va_S A s.heap s.heap [] := va_S.rf
  have hl := lv_entry ([.ref (ad 7), .int a1]) (n := 2) (Nat.le_of_ble_eq_true rfl)
  rw [lg_entry_eq]
  generalize (lg_sl ([.ref (ad 7), .int a1]) ++ List.replicate (2 - (lg_sl ([.ref (ad 7), .int a1])).length) Slot.unset).toArray = ls at hl ⊢
  have hl : lv_has ls 2 [(0, .ref (ad 7)), (1, .int a1)] := hl
  unfold f_X4_lay at h
  refine lv_iload_n hx hb dX4_lay_0 rfl (lv_at hl 1 rfl) ?_
  refine lv_if_lt (tgt := 32) hx hb dX4_lay_1 (by decide) (fun c1 => ?_) (fun c1 => ?_)
  · replace h := pt_ip c1 h
    refine lv_iconst (v := 0) hx hb dX4_lay_32 (by decide) ?_
    exact pt_zret S hr hlk hP hS (Or.inl rfl) (pt_pr h).1 (congrArg (wC ca ad) (pt_pr h).2) dX4_lay_33
  · replace h := pt_iN c1 h
    refine lv_iload_n hx hb dX4_lay_4 rfl (lv_at hl 1 rfl) ?_
    refine lv_aload_n hx hb dX4_lay_5 rfl (lv_at hl 0 rfl) ?_
    refine gf_X4_0 S hiX4 hK hP hf9 dX4_lay_6 ?_
    refine ln_C_24 S hK hP dX4_lay_9 ?_
    refine lv_icmp_ge (tgt := 32) hx hb dX4_lay_10 (by decide) (fun c2 => ?_) (fun c2 => ?_)
    · replace h := pt_ip c2 h
      refine lv_iconst (v := 0) hx hb dX4_lay_32 (by decide) ?_
      exact pt_zret S hr hlk hP hS (Or.inl rfl) (pt_pr h).1 (congrArg (wC ca ad) (pt_pr h).2) dX4_lay_33
    · replace h := pt_iN c2 h
      refine lv_iload_n hx hb dX4_lay_13 rfl (lv_at hl 1 rfl) ?_
      refine lv_aload_n hx hb dX4_lay_14 rfl (lv_at hl 0 rfl) ?_
      refine gf_X4_3 S hiX4 hK hP hf22 dX4_lay_15 ?_
      refine lv_icmp_eq (tgt := 34) hx hb dX4_lay_18 (by decide) (fun c3 => ?_) (fun c3 => ?_)
      · replace h := pt_ip c3 h
        refine lv_aload_n hx hb dX4_lay_34 rfl (lv_at hl 0 rfl) ?_
        refine gf_X4_0 S hiX4 hK hP hf9 dX4_lay_35 ?_
        refine lv_iload_n hx hb dX4_lay_38 rfl (lv_at hl 1 rfl) ?_
        refine lv_iconst (v := 1) hx hb dX4_lay_39 (by decide) ?_
        replace h := pt_gd h; obtain ⟨g4, h⟩ := h
        replace h := pt_dos h; obtain ⟨σ5, e5, h⟩ := h
        refine st_C_24 S hK hP hDa hS g4 e5 dX4_lay_40 (fun H locs hP hS => ?_)
        refine lv_aload_n hx hb dX4_lay_41 rfl (lv_at hl 0 rfl) ?_
        refine lv_dup hx hb dX4_lay_42 rfl ?_
        refine gf_X4_1 S hiX4 hK hP hf15 dX4_lay_43 ?_
        refine lv_iconst (v := 1) hx hb dX4_lay_46 (by decide) ?_
        refine lv_iadd hx hb dX4_lay_47 ?_
        replace h := pt_dos h; obtain ⟨σ6, e6, h⟩ := h
        refine pf_X4_1 S hiX4 hK hP hDa hS hf15 e6 dX4_lay_48 (fun H locs hP hS => ?_)
        have X51 : ∀ (σ : pt_St), kx_X4_lay_51 a1 σ = some (r, σ') → ∀ (H : Heap) (locs : List Loc) (ls : Array Slot), va_P D vwCl (wC ca ad σ) H → va_S A s.heap H locs → lv_has ls 2 [(0, .ref (ad 7)), (1, .int a1)] → W p l e (headSpec wsX4_lay { frames := 0, cells := 0, slots := 0, locals := 0 }).room s m ([.ref (ad 7), .int a1] : List Value).toArray below meth c H locs 0 0 (MQ below (pt_Q (some (.int r)) D (wC ca ad σ') A) ([.ref (ad 7), .int a1] : List Value).toArray s 0 0 A) (F0 m 115 ls []) := by
          intro σ h H locs ls hP hS hl
          unfold kx_X4_lay_51 at h
          refine lv_iconst (v := 1) hx hb dX4_lay_115 (by decide) ?_
          exact pt_zret S hr hlk hP hS (Or.inr rfl) (pt_pr h).1 (congrArg (wC ca ad) (pt_pr h).2) dX4_lay_116
        have L51 : ∀ (n : Nat) (σ : pt_St),  lp_X4_lay_51 (kx_X4_lay_51 a1) a1 n σ = some (r, σ') → ∀ (H : Heap) (locs : List Loc) (ls : Array Slot), va_P D vwCl (wC ca ad σ) H → va_S A s.heap H locs → lv_has ls 2 [(0, .ref (ad 7)), (1, .int a1)] → W p l e (headSpec wsX4_lay { frames := 0, cells := 0, slots := 0, locals := 0 }).room s m ([.ref (ad 7), .int a1] : List Value).toArray below meth c H locs 0 0 (MQ below (pt_Q (some (.int r)) D (wC ca ad σ') A) ([.ref (ad 7), .int a1] : List Value).toArray s 0 0 A) (F0 m 51 ls []) := by
          intro n
          induction n with
          | zero => intro σ h; cases h
          | succ n ih0 =>
            intro σ h H locs ls hP hS hl
            rw [lp_X4_lay_51] at h
            refine lv_aload_n hx hb dX4_lay_51 rfl (lv_at hl 0 rfl) ?_
            refine gf_X4_3 S hiX4 hK hP hf22 dX4_lay_52 ?_
            refine lv_if_lt (tgt := 115) hx hb dX4_lay_55 (by decide) (fun c52001 => ?_) (fun c52001 => ?_)
            · replace h := pt_ip c52001 h
              exact X51 _ h _ _ _ hP hS (lv_sub hl [0, 1] rfl)
            · replace h := pt_iN c52001 h
              refine lv_aload_n hx hb dX4_lay_58 rfl (lv_at hl 0 rfl) ?_
              refine gf_X4_3 S hiX4 hK hP hf22 dX4_lay_59 ?_
              refine lv_aload_n hx hb dX4_lay_62 rfl (lv_at hl 0 rfl) ?_
              refine gf_X4_0 S hiX4 hK hP hf9 dX4_lay_63 ?_
              refine ln_C_24 S hK hP dX4_lay_66 ?_
              refine lv_icmp_ge (tgt := 115) hx hb dX4_lay_67 (by decide) (fun c52002 => ?_) (fun c52002 => ?_)
              · replace h := pt_ip c52002 h
                exact X51 _ h _ _ _ hP hS (lv_sub hl [0, 1] rfl)
              · replace h := pt_iN c52002 h
                refine lv_aload_n hx hb dX4_lay_70 rfl (lv_at hl 0 rfl) ?_
                refine gf_X4_0 S hiX4 hK hP hf9 dX4_lay_71 ?_
                refine lv_aload_n hx hb dX4_lay_74 rfl (lv_at hl 0 rfl) ?_
                refine gf_X4_3 S hiX4 hK hP hf22 dX4_lay_75 ?_
                replace h := pt_gd h; obtain ⟨g52003, h⟩ := h
                refine ld_C_24 S hK hP g52003 dX4_lay_78 ?_
                refine lv_if_eq (tgt := 115) hx hb dX4_lay_79 (by decide) (fun c52004 => ?_) (fun c52004 => ?_)
                · replace h := pt_ip c52004 h
                  exact X51 _ h _ _ _ hP hS (lv_sub hl [0, 1] rfl)
                · replace h := pt_iN c52004 h
                  refine lv_aload_n hx hb dX4_lay_82 rfl (lv_at hl 0 rfl) ?_
                  refine gf_X4_0 S hiX4 hK hP hf9 dX4_lay_83 ?_
                  refine lv_aload_n hx hb dX4_lay_86 rfl (lv_at hl 0 rfl) ?_
                  refine gf_X4_3 S hiX4 hK hP hf22 dX4_lay_87 ?_
                  refine lv_iconst (v := 0) hx hb dX4_lay_90 (by decide) ?_
                  replace h := pt_dos h; obtain ⟨σ52005, e52005, h⟩ := h
                  refine st_C_24 S hK hP hDa hS g52003 e52005 dX4_lay_91 (fun H locs hP hS => ?_)
                  refine lv_aload_n hx hb dX4_lay_92 rfl (lv_at hl 0 rfl) ?_
                  refine lv_dup hx hb dX4_lay_93 rfl ?_
                  refine gf_X4_1 S hiX4 hK hP hf15 dX4_lay_94 ?_
                  refine lv_iconst (v := 1) hx hb dX4_lay_97 (by decide) ?_
                  refine lv_isub hx hb dX4_lay_98 ?_
                  replace h := pt_dos h; obtain ⟨σ52006, e52006, h⟩ := h
                  refine pf_X4_1 S hiX4 hK hP hDa hS hf15 e52006 dX4_lay_99 (fun H locs hP hS => ?_)
                  refine lv_aload_n hx hb dX4_lay_102 rfl (lv_at hl 0 rfl) ?_
                  refine lv_dup hx hb dX4_lay_103 rfl ?_
                  refine gf_X4_3 S hiX4 hK hP hf22 dX4_lay_104 ?_
                  refine lv_iconst (v := 1) hx hb dX4_lay_107 (by decide) ?_
                  refine lv_iadd hx hb dX4_lay_108 ?_
                  replace h := pt_dos h; obtain ⟨σ52007, e52007, h⟩ := h
                  refine pf_X4_3 S hiX4 hK hP hDa hS hf22 e52007 dX4_lay_109 (fun H locs hP hS => ?_)
                  refine lv_goto (tgt := 51) hx hb dX4_lay_112 (by decide) ?_
                  exact ih0 _ h _ _ _ hP hS (lv_sub hl [0, 1] rfl)
        exact L51 _ _ h _ _ _ hP hS (lv_sub hl [0, 1] rfl)
      · replace h := pt_iN c3 h
        refine lv_aload_n hx hb dX4_lay_21 rfl (lv_at hl 0 rfl) ?_
        refine gf_X4_1 S hiX4 hK hP hf15 dX4_lay_22 ?_
        refine lv_aload_n hx hb dX4_lay_25 rfl (lv_at hl 0 rfl) ?_
        refine gf_X4_2 S hiX4 hK hP hf19 dX4_lay_26 ?_
        refine lv_icmp_lt (tgt := 34) hx hb dX4_lay_29 (by decide) (fun c7 => ?_) (fun c7 => ?_)
        · replace h := pt_ip c7 h
          refine lv_aload_n hx hb dX4_lay_34 rfl (lv_at hl 0 rfl) ?_
          refine gf_X4_0 S hiX4 hK hP hf9 dX4_lay_35 ?_
          refine lv_iload_n hx hb dX4_lay_38 rfl (lv_at hl 1 rfl) ?_
          refine lv_iconst (v := 1) hx hb dX4_lay_39 (by decide) ?_
          replace h := pt_gd h; obtain ⟨g8, h⟩ := h
          replace h := pt_dos h; obtain ⟨σ9, e9, h⟩ := h
          refine st_C_24 S hK hP hDa hS g8 e9 dX4_lay_40 (fun H locs hP hS => ?_)
          refine lv_aload_n hx hb dX4_lay_41 rfl (lv_at hl 0 rfl) ?_
          refine lv_dup hx hb dX4_lay_42 rfl ?_
          refine gf_X4_1 S hiX4 hK hP hf15 dX4_lay_43 ?_
          refine lv_iconst (v := 1) hx hb dX4_lay_46 (by decide) ?_
          refine lv_iadd hx hb dX4_lay_47 ?_
          replace h := pt_dos h; obtain ⟨σ10, e10, h⟩ := h
          refine pf_X4_1 S hiX4 hK hP hDa hS hf15 e10 dX4_lay_48 (fun H locs hP hS => ?_)
          have X51 : ∀ (σ : pt_St), kx_X4_lay_51 a1 σ = some (r, σ') → ∀ (H : Heap) (locs : List Loc) (ls : Array Slot), va_P D vwCl (wC ca ad σ) H → va_S A s.heap H locs → lv_has ls 2 [(0, .ref (ad 7)), (1, .int a1)] → W p l e (headSpec wsX4_lay { frames := 0, cells := 0, slots := 0, locals := 0 }).room s m ([.ref (ad 7), .int a1] : List Value).toArray below meth c H locs 0 0 (MQ below (pt_Q (some (.int r)) D (wC ca ad σ') A) ([.ref (ad 7), .int a1] : List Value).toArray s 0 0 A) (F0 m 115 ls []) := by
            intro σ h H locs ls hP hS hl
            unfold kx_X4_lay_51 at h
            refine lv_iconst (v := 1) hx hb dX4_lay_115 (by decide) ?_
            exact pt_zret S hr hlk hP hS (Or.inr rfl) (pt_pr h).1 (congrArg (wC ca ad) (pt_pr h).2) dX4_lay_116
          have L51 : ∀ (n : Nat) (σ : pt_St),  lp_X4_lay_51 (kx_X4_lay_51 a1) a1 n σ = some (r, σ') → ∀ (H : Heap) (locs : List Loc) (ls : Array Slot), va_P D vwCl (wC ca ad σ) H → va_S A s.heap H locs → lv_has ls 2 [(0, .ref (ad 7)), (1, .int a1)] → W p l e (headSpec wsX4_lay { frames := 0, cells := 0, slots := 0, locals := 0 }).room s m ([.ref (ad 7), .int a1] : List Value).toArray below meth c H locs 0 0 (MQ below (pt_Q (some (.int r)) D (wC ca ad σ') A) ([.ref (ad 7), .int a1] : List Value).toArray s 0 0 A) (F0 m 51 ls []) := by
            intro n
            induction n with
            | zero => intro σ h; cases h
            | succ n ih0 =>
              intro σ h H locs ls hP hS hl
              rw [lp_X4_lay_51] at h
              refine lv_aload_n hx hb dX4_lay_51 rfl (lv_at hl 0 rfl) ?_
              refine gf_X4_3 S hiX4 hK hP hf22 dX4_lay_52 ?_
              refine lv_if_lt (tgt := 115) hx hb dX4_lay_55 (by decide) (fun c52001 => ?_) (fun c52001 => ?_)
              · replace h := pt_ip c52001 h
                exact X51 _ h _ _ _ hP hS (lv_sub hl [0, 1] rfl)
              · replace h := pt_iN c52001 h
                refine lv_aload_n hx hb dX4_lay_58 rfl (lv_at hl 0 rfl) ?_
                refine gf_X4_3 S hiX4 hK hP hf22 dX4_lay_59 ?_
                refine lv_aload_n hx hb dX4_lay_62 rfl (lv_at hl 0 rfl) ?_
                refine gf_X4_0 S hiX4 hK hP hf9 dX4_lay_63 ?_
                refine ln_C_24 S hK hP dX4_lay_66 ?_
                refine lv_icmp_ge (tgt := 115) hx hb dX4_lay_67 (by decide) (fun c52002 => ?_) (fun c52002 => ?_)
                · replace h := pt_ip c52002 h
                  exact X51 _ h _ _ _ hP hS (lv_sub hl [0, 1] rfl)
                · replace h := pt_iN c52002 h
                  refine lv_aload_n hx hb dX4_lay_70 rfl (lv_at hl 0 rfl) ?_
                  refine gf_X4_0 S hiX4 hK hP hf9 dX4_lay_71 ?_
                  refine lv_aload_n hx hb dX4_lay_74 rfl (lv_at hl 0 rfl) ?_
                  refine gf_X4_3 S hiX4 hK hP hf22 dX4_lay_75 ?_
                  replace h := pt_gd h; obtain ⟨g52003, h⟩ := h
                  refine ld_C_24 S hK hP g52003 dX4_lay_78 ?_
                  refine lv_if_eq (tgt := 115) hx hb dX4_lay_79 (by decide) (fun c52004 => ?_) (fun c52004 => ?_)
                  · replace h := pt_ip c52004 h
                    exact X51 _ h _ _ _ hP hS (lv_sub hl [0, 1] rfl)
                  · replace h := pt_iN c52004 h
                    refine lv_aload_n hx hb dX4_lay_82 rfl (lv_at hl 0 rfl) ?_
                    refine gf_X4_0 S hiX4 hK hP hf9 dX4_lay_83 ?_
                    refine lv_aload_n hx hb dX4_lay_86 rfl (lv_at hl 0 rfl) ?_
                    refine gf_X4_3 S hiX4 hK hP hf22 dX4_lay_87 ?_
                    refine lv_iconst (v := 0) hx hb dX4_lay_90 (by decide) ?_
                    replace h := pt_dos h; obtain ⟨σ52005, e52005, h⟩ := h
                    refine st_C_24 S hK hP hDa hS g52003 e52005 dX4_lay_91 (fun H locs hP hS => ?_)
                    refine lv_aload_n hx hb dX4_lay_92 rfl (lv_at hl 0 rfl) ?_
                    refine lv_dup hx hb dX4_lay_93 rfl ?_
                    refine gf_X4_1 S hiX4 hK hP hf15 dX4_lay_94 ?_
                    refine lv_iconst (v := 1) hx hb dX4_lay_97 (by decide) ?_
                    refine lv_isub hx hb dX4_lay_98 ?_
                    replace h := pt_dos h; obtain ⟨σ52006, e52006, h⟩ := h
                    refine pf_X4_1 S hiX4 hK hP hDa hS hf15 e52006 dX4_lay_99 (fun H locs hP hS => ?_)
                    refine lv_aload_n hx hb dX4_lay_102 rfl (lv_at hl 0 rfl) ?_
                    refine lv_dup hx hb dX4_lay_103 rfl ?_
                    refine gf_X4_3 S hiX4 hK hP hf22 dX4_lay_104 ?_
                    refine lv_iconst (v := 1) hx hb dX4_lay_107 (by decide) ?_
                    refine lv_iadd hx hb dX4_lay_108 ?_
                    replace h := pt_dos h; obtain ⟨σ52007, e52007, h⟩ := h
                    refine pf_X4_3 S hiX4 hK hP hDa hS hf22 e52007 dX4_lay_109 (fun H locs hP hS => ?_)
                    refine lv_goto (tgt := 51) hx hb dX4_lay_112 (by decide) ?_
                    exact ih0 _ h _ _ _ hP hS (lv_sub hl [0, 1] rfl)
          exact L51 _ _ h _ _ _ hP hS (lv_sub hl [0, 1] rfl)
        · replace h := pt_iN c7 h
          refine lv_iconst (v := 0) hx hb dX4_lay_32 (by decide) ?_
          exact pt_zret S hr hlk hP hS (Or.inl rfl) (pt_pr h).1 (congrArg (wC ca ad) (pt_pr h).2) dX4_lay_33

def f_X5_allows (σ : pt_St) (a1 : Int32) (a2 : Int32) : Option (Int32 × pt_St) :=
  if a1 < (0 : Int32) then
  some ((0 : Int32), σ)
  else
  if (4 : Int32) ≤ a1 then
  some ((0 : Int32), σ)
  else
  if pt_in a1 4 then
  if a2 < (pt_lo a1.toNatClampNeg) then
  some ((0 : Int32), σ)
  else
  if (pt_hi a1.toNatClampNeg) < a2 then
  some ((0 : Int32), σ)
  else
  some ((1 : Int32), σ)
  else none
set_option maxHeartbeats 4000000 in
set_option maxRecDepth 100000 in
theorem m_X5_allows (l : Launch) {D : va_G} {A : Nat → Prop} {ca : Nat → ClassId} {ad : Nat → Nat} {z : Nat × Nat} (hDa : ∀ σ, va_D A (wC ca ad σ)) {σ σ' : pt_St} {r : Int32} {a1 : Int32} {a2 : Int32} (h : f_X5_allows σ a1 a2 = some (r, σ')) : Met l yX5_allows wsX5_allows { frames := 0, cells := 0, slots := 0, locals := 0 } (va_Pc [.ref (ad 2), .int a1, .int a2] (pt_Pre D (tysC ca) z A (wC ca ad σ))) (pt_Q (some (.int r)) D (wC ca ad σ') A) 0 0 A := by
  refine Met.ofW (cc := cX5_allows) (maxL := 3) (ret := (some .boolean)) (by decide) rfl ?_
  intro p e s m args below meth c s₁ B hml hv
  obtain ⟨rfl, hP, hK, hZ⟩ := hv
  have S : CallFix p m c cX5_allows 3 s ([.ref (ad 2), .int a1, .int a2] : List Value).toArray wsX5_allows RX5 := ⟨B.exec, B.bytes, hml, findClass_of_methodNamed B.named, atoms_spec (ws := wsX5_allows) B.pre⟩
  have hx := S.1
  have hb := S.2.1
  have hr := B.returns
  have hlk := B.notSynchronized
  clear B
  have hf22 : (Cond.fieldLink RX5 22 "PackThreads$Settings" "LEAST" "[I").before _ s = true := S.2.2.2.2 _ (List.mem_of_getElem? (i := 1) rfl)
  have hf26 : (Cond.fieldLink RX5 26 "PackThreads$Settings" "MOST" "[I").before _ s = true := S.2.2.2.2 _ (List.mem_of_getElem? (i := 2) rfl)
  have hS : va_S A s.heap s.heap [] := va_S.rf
  have hl := lv_entry ([.ref (ad 2), .int a1, .int a2]) (n := 3) (Nat.le_of_ble_eq_true rfl)
  rw [lg_entry_eq]
  generalize (lg_sl ([.ref (ad 2), .int a1, .int a2]) ++ List.replicate (3 - (lg_sl ([.ref (ad 2), .int a1, .int a2])).length) Slot.unset).toArray = ls at hl ⊢
  have hl : lv_has ls 3 [(0, .ref (ad 2)), (1, .int a1), (2, .int a2)] := hl
  unfold f_X5_allows at h
  refine lv_iload_n hx hb dX5_allows_0 rfl (lv_at hl 1 rfl) ?_
  refine lv_if_lt (tgt := 42) hx hb dX5_allows_1 (by decide) (fun c1 => ?_) (fun c1 => ?_)
  · replace h := pt_ip c1 h
    refine lv_iconst (v := 0) hx hb dX5_allows_42 (by decide) ?_
    exact pt_zret S hr hlk hP hS (Or.inl rfl) (pt_pr h).1 (congrArg (wC ca ad) (pt_pr h).2) dX5_allows_43
  · replace h := pt_iN c1 h
    refine lv_iload_n hx hb dX5_allows_4 rfl (lv_at hl 1 rfl) ?_
    refine pt_gs1 S hS hZ hf22 dX5_allows_5 ?_
    refine pt_sl1 S hS hZ dX5_allows_8 ?_
    refine lv_icmp_ge (tgt := 42) hx hb dX5_allows_9 (by decide) (fun c2 => ?_) (fun c2 => ?_)
    · replace h := pt_ip c2 h
      refine lv_iconst (v := 0) hx hb dX5_allows_42 (by decide) ?_
      exact pt_zret S hr hlk hP hS (Or.inl rfl) (pt_pr h).1 (congrArg (wC ca ad) (pt_pr h).2) dX5_allows_43
    · replace h := pt_iN c2 h
      refine lv_iload_n hx hb dX5_allows_12 rfl (lv_at hl 1 rfl) ?_
      refine pt_gs2 S hS hZ hf26 dX5_allows_13 ?_
      refine pt_sl2 S hS hZ dX5_allows_16 ?_
      refine lv_icmp_ge (tgt := 42) hx hb dX5_allows_17 (by decide) (fun c3 => ?_) (fun c3 => ?_)
      · exact absurd c3 c2
      · refine lv_iload_n hx hb dX5_allows_20 rfl (lv_at hl 2 rfl) ?_
        refine pt_gs1 S hS hZ hf22 dX5_allows_21 ?_
        refine lv_iload_n hx hb dX5_allows_24 rfl (lv_at hl 1 rfl) ?_
        replace h := pt_gd h; obtain ⟨g4, h⟩ := h
        refine pt_si1 S hS hZ g4 dX5_allows_25 ?_
        refine lv_icmp_lt (tgt := 42) hx hb dX5_allows_26 (by decide) (fun c5 => ?_) (fun c5 => ?_)
        · replace h := pt_ip c5 h
          refine lv_iconst (v := 0) hx hb dX5_allows_42 (by decide) ?_
          exact pt_zret S hr hlk hP hS (Or.inl rfl) (pt_pr h).1 (congrArg (wC ca ad) (pt_pr h).2) dX5_allows_43
        · replace h := pt_iN c5 h
          refine lv_iload_n hx hb dX5_allows_29 rfl (lv_at hl 2 rfl) ?_
          refine pt_gs2 S hS hZ hf26 dX5_allows_30 ?_
          refine lv_iload_n hx hb dX5_allows_33 rfl (lv_at hl 1 rfl) ?_
          refine pt_si2 S hS hZ g4 dX5_allows_34 ?_
          refine lv_icmp_gt (tgt := 42) hx hb dX5_allows_35 (by decide) (fun c6 => ?_) (fun c6 => ?_)
          · replace h := pt_ip c6 h
            refine lv_iconst (v := 0) hx hb dX5_allows_42 (by decide) ?_
            exact pt_zret S hr hlk hP hS (Or.inl rfl) (pt_pr h).1 (congrArg (wC ca ad) (pt_pr h).2) dX5_allows_43
          · replace h := pt_iN c6 h
            refine lv_iconst (v := 1) hx hb dX5_allows_38 (by decide) ?_
            refine lv_goto (tgt := 43) hx hb dX5_allows_39 (by decide) ?_
            exact pt_zret S hr hlk hP hS (Or.inr rfl) (pt_pr h).1 (congrArg (wC ca ad) (pt_pr h).2) dX5_allows_43

def f_X5_replace (σ : pt_St) (a1 : Int32) (a2 : Int32) : Option (Int32 × pt_St) :=
  if a1 = (0 : Int32) then
  pt_do (pt_put σ 2 0 a2) fun σ2 =>
  some ((σ 2 0), σ2)
  else
  if a1 = (1 : Int32) then
  pt_do (pt_put σ 2 1 a2) fun σ4 =>
  some ((σ 2 1), σ4)
  else
  if a1 = (2 : Int32) then
  pt_do (pt_put σ 2 2 a2) fun σ6 =>
  some ((σ 2 2), σ6)
  else
  pt_do (pt_put σ 2 3 a2) fun σ7 =>
  some ((σ 2 3), σ7)
set_option maxHeartbeats 4000000 in
set_option maxRecDepth 100000 in
theorem m_X5_replace (l : Launch) {D : va_G} {A : Nat → Prop} {ca : Nat → ClassId} {ad : Nat → Nat} {z : Nat × Nat} (hDa : ∀ σ, va_D A (wC ca ad σ)) {σ σ' : pt_St} {r : Int32} {a1 : Int32} {a2 : Int32} (h : f_X5_replace σ a1 a2 = some (r, σ')) : Met l yX5_replace wsX5_replace { frames := 0, cells := 0, slots := 0, locals := 0 } (va_Pc [.ref (ad 2), .int a1, .int a2] (pt_Pre D (tysC ca) z A (wC ca ad σ))) (pt_Q (some (.int r)) D (wC ca ad σ') A) 0 0 A := by
  refine Met.ofW (cc := cX5_replace) (maxL := 4) (ret := (some .int)) (by decide) rfl ?_
  intro p e s m args below meth c s₁ B hml hv
  obtain ⟨rfl, hP, hK, hZ⟩ := hv
  have S : CallFix p m c cX5_replace 4 s ([.ref (ad 2), .int a1, .int a2] : List Value).toArray wsX5_replace RX5 := ⟨B.exec, B.bytes, hml, findClass_of_methodNamed B.named, atoms_spec (ws := wsX5_replace) B.pre⟩
  have hx := S.1
  have hb := S.2.1
  have hr := B.returns
  have hlk := B.notSynchronized
  clear B
  have hiX5 : ∀ w ∈ wsX50, w ∈ wsX5_replace := fun w h => List.mem_cons_of_mem _ (List.mem_append_right _ h)
  have hf7 : (Cond.fieldLink RX5 7 "PackThreads$Settings" "size" "I").before _ s = true := S.2.2.2.2 _ (List.mem_of_getElem? (i := 1) rfl)
  have hf13 : (Cond.fieldLink RX5 13 "PackThreads$Settings" "window" "I").before _ s = true := S.2.2.2.2 _ (List.mem_of_getElem? (i := 2) rfl)
  have hf16 : (Cond.fieldLink RX5 16 "PackThreads$Settings" "cells" "I").before _ s = true := S.2.2.2.2 _ (List.mem_of_getElem? (i := 3) rfl)
  have hf19 : (Cond.fieldLink RX5 19 "PackThreads$Settings" "rowLimit" "I").before _ s = true := S.2.2.2.2 _ (List.mem_of_getElem? (i := 4) rfl)
  have hS : va_S A s.heap s.heap [] := va_S.rf
  have hl := lv_entry ([.ref (ad 2), .int a1, .int a2]) (n := 4) (Nat.le_of_ble_eq_true rfl)
  rw [lg_entry_eq]
  generalize (lg_sl ([.ref (ad 2), .int a1, .int a2]) ++ List.replicate (4 - (lg_sl ([.ref (ad 2), .int a1, .int a2])).length) Slot.unset).toArray = ls at hl ⊢
  have hl : lv_has ls 4 [(0, .ref (ad 2)), (1, .int a1), (2, .int a2)] := hl
  unfold f_X5_replace at h
  refine lv_iload_n hx hb dX5_replace_0 rfl (lv_at hl 1 rfl) ?_
  by_cases c1 : a1 = (0 : Int32)
  · replace h := pt_ip c1 h
    refine lv_tableIn (off := 27) (tgt := 28) hx hb dX5_replace_1 (by rw [c1]; decide) (by rw [c1]; decide) (by rw [c1]; rfl) (by decide) ?_
    refine lv_aload_n hx hb dX5_replace_28 rfl (lv_at hl 0 rfl) ?_
    refine gf_X5_0 S hiX5 hK hP hf7 dX5_replace_29 ?_
    refine lv_istore_n (lv' := [(3, .int (σ 2 0)), (0, .ref (ad 2)), (1, .int a1), (2, .int a2)]) hx hb dX5_replace_32 rfl hl (by decide) rfl (fun ls hl => ?_)
    refine lv_aload_n hx hb dX5_replace_33 rfl (lv_at hl 1 rfl) ?_
    refine lv_iload_n hx hb dX5_replace_34 rfl (lv_at hl 3 rfl) ?_
    replace h := pt_dos h; obtain ⟨σ2, e2, h⟩ := h
    refine pf_X5_0 S hiX5 hK hP hDa hS hf7 e2 dX5_replace_35 (fun H locs hP hS => ?_)
    refine lv_iload_n hx hb dX5_replace_38 rfl (lv_at hl 0 rfl) ?_
    exact pt_iret S hr hlk hP hS (pt_pr h).1 (congrArg (wC ca ad) (pt_pr h).2) dX5_replace_39
  · replace h := pt_iN c1 h
    by_cases c3 : a1 = (1 : Int32)
    · replace h := pt_ip c3 h
      refine lv_tableIn (off := 39) (tgt := 40) hx hb dX5_replace_1 (by rw [c3]; decide) (by rw [c3]; decide) (by rw [c3]; rfl) (by decide) ?_
      refine lv_aload_n hx hb dX5_replace_40 rfl (lv_at hl 0 rfl) ?_
      refine gf_X5_1 S hiX5 hK hP hf13 dX5_replace_41 ?_
      refine lv_istore_n (lv' := [(3, .int (σ 2 1)), (0, .ref (ad 2)), (1, .int a1), (2, .int a2)]) hx hb dX5_replace_44 rfl hl (by decide) rfl (fun ls hl => ?_)
      refine lv_aload_n hx hb dX5_replace_45 rfl (lv_at hl 1 rfl) ?_
      refine lv_iload_n hx hb dX5_replace_46 rfl (lv_at hl 3 rfl) ?_
      replace h := pt_dos h; obtain ⟨σ4, e4, h⟩ := h
      refine pf_X5_1 S hiX5 hK hP hDa hS hf13 e4 dX5_replace_47 (fun H locs hP hS => ?_)
      refine lv_iload_n hx hb dX5_replace_50 rfl (lv_at hl 0 rfl) ?_
      exact pt_iret S hr hlk hP hS (pt_pr h).1 (congrArg (wC ca ad) (pt_pr h).2) dX5_replace_51
    · replace h := pt_iN c3 h
      by_cases c5 : a1 = (2 : Int32)
      · replace h := pt_ip c5 h
        refine lv_tableIn (off := 51) (tgt := 52) hx hb dX5_replace_1 (by rw [c5]; decide) (by rw [c5]; decide) (by rw [c5]; rfl) (by decide) ?_
        refine lv_aload_n hx hb dX5_replace_52 rfl (lv_at hl 0 rfl) ?_
        refine gf_X5_2 S hiX5 hK hP hf16 dX5_replace_53 ?_
        refine lv_istore_n (lv' := [(3, .int (σ 2 2)), (0, .ref (ad 2)), (1, .int a1), (2, .int a2)]) hx hb dX5_replace_56 rfl hl (by decide) rfl (fun ls hl => ?_)
        refine lv_aload_n hx hb dX5_replace_57 rfl (lv_at hl 1 rfl) ?_
        refine lv_iload_n hx hb dX5_replace_58 rfl (lv_at hl 3 rfl) ?_
        replace h := pt_dos h; obtain ⟨σ6, e6, h⟩ := h
        refine pf_X5_2 S hiX5 hK hP hDa hS hf16 e6 dX5_replace_59 (fun H locs hP hS => ?_)
        refine lv_iload_n hx hb dX5_replace_62 rfl (lv_at hl 0 rfl) ?_
        exact pt_iret S hr hlk hP hS (pt_pr h).1 (congrArg (wC ca ad) (pt_pr h).2) dX5_replace_63
      · replace h := pt_iN c5 h
        refine lv_tableOut (tgt := 64) hx hb dX5_replace_1 (by have q0 := lv_neT c1 (a := 0) (by decide); have q1 := lv_neT c3 (a := 1) (by decide); have q2 := lv_neT c5 (a := 2) (by decide); omega) (by decide) ?_
        refine lv_aload_n hx hb dX5_replace_64 rfl (lv_at hl 0 rfl) ?_
        refine gf_X5_3 S hiX5 hK hP hf19 dX5_replace_65 ?_
        refine lv_istore_n (lv' := [(3, .int (σ 2 3)), (0, .ref (ad 2)), (1, .int a1), (2, .int a2)]) hx hb dX5_replace_68 rfl hl (by decide) rfl (fun ls hl => ?_)
        refine lv_aload_n hx hb dX5_replace_69 rfl (lv_at hl 1 rfl) ?_
        refine lv_iload_n hx hb dX5_replace_70 rfl (lv_at hl 3 rfl) ?_
        replace h := pt_dos h; obtain ⟨σ7, e7, h⟩ := h
        refine pf_X5_3 S hiX5 hK hP hDa hS hf19 e7 dX5_replace_71 (fun H locs hP hS => ?_)
        refine lv_iload_n hx hb dX5_replace_74 rfl (lv_at hl 0 rfl) ?_
        exact pt_iret S hr hlk hP hS (pt_pr h).1 (congrArg (wC ca ad) (pt_pr h).2) dX5_replace_75

def f_X5_cells (σ : pt_St) : Option (Int32 × pt_St) :=
  some ((σ 2 2), σ)
set_option maxHeartbeats 4000000 in
set_option maxRecDepth 100000 in
theorem m_X5_cells (l : Launch) {D : va_G} {A : Nat → Prop} {ca : Nat → ClassId} {ad : Nat → Nat} {z : Nat × Nat} (hDa : ∀ σ, va_D A (wC ca ad σ)) {σ σ' : pt_St} {r : Int32} (h : f_X5_cells σ = some (r, σ')) : Met l yX5_cells wsX5_cells { frames := 0, cells := 0, slots := 0, locals := 0 } (va_Pc [.ref (ad 2)] (pt_Pre D (tysC ca) z A (wC ca ad σ))) (pt_Q (some (.int r)) D (wC ca ad σ') A) 0 0 A := by
  refine Met.ofW (cc := cX5_cells) (maxL := 1) (ret := (some .int)) (by decide) rfl ?_
  intro p e s m args below meth c s₁ B hml hv
  obtain ⟨rfl, hP, hK, hZ⟩ := hv
  have S : CallFix p m c cX5_cells 1 s ([.ref (ad 2)] : List Value).toArray wsX5_cells RX5 := ⟨B.exec, B.bytes, hml, findClass_of_methodNamed B.named, atoms_spec (ws := wsX5_cells) B.pre⟩
  have hx := S.1
  have hb := S.2.1
  have hr := B.returns
  have hlk := B.notSynchronized
  clear B
  have hiX5 : ∀ w ∈ wsX50, w ∈ wsX5_cells := fun w h => List.mem_cons_of_mem _ (List.mem_append_right _ h)
  have hf16 : (Cond.fieldLink RX5 16 "PackThreads$Settings" "cells" "I").before _ s = true := S.2.2.2.2 _ (List.mem_of_getElem? (i := 1) rfl)
  have hS : va_S A s.heap s.heap [] := va_S.rf
  have hl := lv_entry ([.ref (ad 2)]) (n := 1) (Nat.le_of_ble_eq_true rfl)
  rw [lg_entry_eq]
  generalize (lg_sl ([.ref (ad 2)]) ++ List.replicate (1 - (lg_sl ([.ref (ad 2)])).length) Slot.unset).toArray = ls at hl ⊢
  have hl : lv_has ls 1 [(0, .ref (ad 2))] := hl
  unfold f_X5_cells at h
  refine lv_aload_n hx hb dX5_cells_0 rfl (lv_at hl 0 rfl) ?_
  refine gf_X5_2 S hiX5 hK hP hf16 dX5_cells_1 ?_
  exact pt_iret S hr hlk hP hS (pt_pr h).1 (congrArg (wC ca ad) (pt_pr h).2) dX5_cells_4

def f_X5_rowLimit (σ : pt_St) : Option (Int32 × pt_St) :=
  some ((σ 2 3), σ)
set_option maxHeartbeats 4000000 in
set_option maxRecDepth 100000 in
theorem m_X5_rowLimit (l : Launch) {D : va_G} {A : Nat → Prop} {ca : Nat → ClassId} {ad : Nat → Nat} {z : Nat × Nat} (hDa : ∀ σ, va_D A (wC ca ad σ)) {σ σ' : pt_St} {r : Int32} (h : f_X5_rowLimit σ = some (r, σ')) : Met l yX5_rowLimit wsX5_rowLimit { frames := 0, cells := 0, slots := 0, locals := 0 } (va_Pc [.ref (ad 2)] (pt_Pre D (tysC ca) z A (wC ca ad σ))) (pt_Q (some (.int r)) D (wC ca ad σ') A) 0 0 A := by
  refine Met.ofW (cc := cX5_rowLimit) (maxL := 1) (ret := (some .int)) (by decide) rfl ?_
  intro p e s m args below meth c s₁ B hml hv
  obtain ⟨rfl, hP, hK, hZ⟩ := hv
  have S : CallFix p m c cX5_rowLimit 1 s ([.ref (ad 2)] : List Value).toArray wsX5_rowLimit RX5 := ⟨B.exec, B.bytes, hml, findClass_of_methodNamed B.named, atoms_spec (ws := wsX5_rowLimit) B.pre⟩
  have hx := S.1
  have hb := S.2.1
  have hr := B.returns
  have hlk := B.notSynchronized
  clear B
  have hiX5 : ∀ w ∈ wsX50, w ∈ wsX5_rowLimit := fun w h => List.mem_cons_of_mem _ (List.mem_append_right _ h)
  have hf19 : (Cond.fieldLink RX5 19 "PackThreads$Settings" "rowLimit" "I").before _ s = true := S.2.2.2.2 _ (List.mem_of_getElem? (i := 1) rfl)
  have hS : va_S A s.heap s.heap [] := va_S.rf
  have hl := lv_entry ([.ref (ad 2)]) (n := 1) (Nat.le_of_ble_eq_true rfl)
  rw [lg_entry_eq]
  generalize (lg_sl ([.ref (ad 2)]) ++ List.replicate (1 - (lg_sl ([.ref (ad 2)])).length) Slot.unset).toArray = ls at hl ⊢
  have hl : lv_has ls 1 [(0, .ref (ad 2))] := hl
  unfold f_X5_rowLimit at h
  refine lv_aload_n hx hb dX5_rowLimit_0 rfl (lv_at hl 0 rfl) ?_
  refine gf_X5_3 S hiX5 hK hP hf19 dX5_rowLimit_1 ?_
  exact pt_iret S hr hlk hP hS (pt_pr h).1 (congrArg (wC ca ad) (pt_pr h).2) dX5_rowLimit_4

def f_X8_becomeFree (σ : pt_St) (a0 : Int32) : Option pt_St :=
  pt_do (pt_put σ (9 + a0.toNatClampNeg) 1 (0 : Int32)) fun σ1 =>
  pt_do (pt_put σ1 (9 + a0.toNatClampNeg) 2 (-1 : Int32)) fun σ2 =>
  pt_do (pt_put σ2 (9 + a0.toNatClampNeg) 3 (-1 : Int32)) fun σ3 =>
  pt_do (pt_put σ3 (9 + a0.toNatClampNeg) 4 (0 : Int32)) fun σ4 =>
  some σ4
set_option maxHeartbeats 4000000 in
set_option maxRecDepth 100000 in
theorem m_X8_becomeFree (l : Launch) {D : va_G} {A : Nat → Prop} {ca : Nat → ClassId} {ad : Nat → Nat} {z : Nat × Nat} (hDa : ∀ σ, va_D A (wC ca ad σ)) {σ σ' : pt_St} {a0 : Int32} (ha0 : pt_iw a0) (h : f_X8_becomeFree σ a0 = some σ') : Met l yX8_becomeFree wsX8_becomeFree { frames := 0, cells := 0, slots := 0, locals := 0 } (va_Pc [.ref (ad (9 + a0.toNatClampNeg))] (pt_Pre D (tysC ca) z A (wC ca ad σ))) (pt_Q none D (wC ca ad σ') A) 0 0 A := by
  refine Met.ofW (cc := cX8_becomeFree) (maxL := 1) (ret := none) (by decide) rfl ?_
  intro p e s m args below meth c s₁ B hml hv
  obtain ⟨rfl, hP, hK, hZ⟩ := hv
  have S : CallFix p m c cX8_becomeFree 1 s ([.ref (ad (9 + a0.toNatClampNeg))] : List Value).toArray wsX8_becomeFree RX8 := ⟨B.exec, B.bytes, hml, findClass_of_methodNamed B.named, atoms_spec (ws := wsX8_becomeFree) B.pre⟩
  have hx := S.1
  have hb := S.2.1
  have hr := B.returns
  have hlk := B.notSynchronized
  clear B
  have hiX8 : ∀ w ∈ wsX80, w ∈ wsX8_becomeFree := fun w h => List.mem_cons_of_mem _ (List.mem_append_right _ h)
  have hf28 : (Cond.fieldLink RX8 28 "PackThreads$Worker" "state" "I").before _ s = true := S.2.2.2.2 _ (List.mem_of_getElem? (i := 1) rfl)
  have hf31 : (Cond.fieldLink RX8 31 "PackThreads$Worker" "block" "I").before _ s = true := S.2.2.2.2 _ (List.mem_of_getElem? (i := 2) rfl)
  have hf34 : (Cond.fieldLink RX8 34 "PackThreads$Worker" "step" "I").before _ s = true := S.2.2.2.2 _ (List.mem_of_getElem? (i := 3) rfl)
  have hf37 : (Cond.fieldLink RX8 37 "PackThreads$Worker" "cells" "I").before _ s = true := S.2.2.2.2 _ (List.mem_of_getElem? (i := 4) rfl)
  have hS : va_S A s.heap s.heap [] := va_S.rf
  have hl := lv_entry ([.ref (ad (9 + a0.toNatClampNeg))]) (n := 1) (Nat.le_of_ble_eq_true rfl)
  rw [lg_entry_eq]
  generalize (lg_sl ([.ref (ad (9 + a0.toNatClampNeg))]) ++ List.replicate (1 - (lg_sl ([.ref (ad (9 + a0.toNatClampNeg))])).length) Slot.unset).toArray = ls at hl ⊢
  have hl : lv_has ls 1 [(0, .ref (ad (9 + a0.toNatClampNeg)))] := hl
  unfold f_X8_becomeFree at h
  refine lv_aload_n hx hb dX8_becomeFree_0 rfl (lv_at hl 0 rfl) ?_
  refine lv_iconst (v := 0) hx hb dX8_becomeFree_1 (by decide) ?_
  replace h := pt_dos h; obtain ⟨σ1, e1, h⟩ := h
  refine pf_X8_1 (pt_in_lt ha0) S hiX8 hK hP hDa hS hf28 e1 dX8_becomeFree_2 (fun H locs hP hS => ?_)
  refine lv_aload_n hx hb dX8_becomeFree_5 rfl (lv_at hl 0 rfl) ?_
  refine lv_iconst (v := -1) hx hb dX8_becomeFree_6 (by decide) ?_
  replace h := pt_dos h; obtain ⟨σ2, e2, h⟩ := h
  refine pf_X8_2 (pt_in_lt ha0) S hiX8 hK hP hDa hS hf31 e2 dX8_becomeFree_7 (fun H locs hP hS => ?_)
  refine lv_aload_n hx hb dX8_becomeFree_10 rfl (lv_at hl 0 rfl) ?_
  refine lv_iconst (v := -1) hx hb dX8_becomeFree_11 (by decide) ?_
  replace h := pt_dos h; obtain ⟨σ3, e3, h⟩ := h
  refine pf_X8_3 (pt_in_lt ha0) S hiX8 hK hP hDa hS hf34 e3 dX8_becomeFree_12 (fun H locs hP hS => ?_)
  refine lv_aload_n hx hb dX8_becomeFree_15 rfl (lv_at hl 0 rfl) ?_
  refine lv_iconst (v := 0) hx hb dX8_becomeFree_16 (by decide) ?_
  replace h := pt_dos h; obtain ⟨σ4, e4, h⟩ := h
  refine pf_X8_4 (pt_in_lt ha0) S hiX8 hK hP hDa hS hf37 e4 dX8_becomeFree_17 (fun H locs hP hS => ?_)
  exact pt_vret S hr hlk hP hS (congrArg (wC ca ad) (pt_so h)) dX8_becomeFree_20

def f_X8_renew (σ : pt_St) (a0 : Int32) : Option pt_St :=
  pt_b1 (f_X8_becomeFree σ a0) fun σ1 =>
  pt_do (pt_put σ1 (9 + a0.toNatClampNeg) 5 (0 : Int32)) fun σ2 =>
  pt_do (pt_put σ2 (9 + a0.toNatClampNeg) 6 (0 : Int32)) fun σ3 =>
  pt_do (pt_put σ3 (9 + a0.toNatClampNeg) 7 (0 : Int32)) fun σ4 =>
  some σ4
set_option maxHeartbeats 4000000 in
set_option maxRecDepth 100000 in
theorem m_X8_renew (l : Launch) {D : va_G} {A : Nat → Prop} {ca : Nat → ClassId} {ad : Nat → Nat} {z : Nat × Nat} (hDa : ∀ σ, va_D A (wC ca ad σ)) {σ σ' : pt_St} {a0 : Int32} (ha0 : pt_iw a0) (h : f_X8_renew σ a0 = some σ') : Met l yX8_renew wsX8_renew { frames := 1, cells := 0, slots := 0, locals := 20 } (va_Pc [.ref (ad (9 + a0.toNatClampNeg))] (pt_Pre D (tysC ca) z A (wC ca ad σ))) (pt_Q none D (wC ca ad σ') A) 0 0 A := by
  refine Met.ofW (cc := cX8_renew) (maxL := 1) (ret := none) (by decide) rfl ?_
  intro p e s m args below meth c s₁ B hml hv
  obtain ⟨rfl, hP, hK, hZ⟩ := hv
  have S : CallFix p m c cX8_renew 1 s ([.ref (ad (9 + a0.toNatClampNeg))] : List Value).toArray wsX8_renew RX8 := ⟨B.exec, B.bytes, hml, findClass_of_methodNamed B.named, atoms_spec (ws := wsX8_renew) B.pre⟩
  have hx := S.1
  have hb := S.2.1
  have hr := B.returns
  have hlk := B.notSynchronized
  clear B
  have hiX8 : ∀ w ∈ wsX80, w ∈ wsX8_renew := fun w h => List.mem_cons_of_mem _ (List.mem_append_right _ h)
  have hf18 : (Cond.fieldLink RX8 18 "PackThreads$Worker" "made" "I").before _ s = true := S.2.2.2.2 _ (List.mem_of_getElem? (i := 1) rfl)
  have hf21 : (Cond.fieldLink RX8 21 "PackThreads$Worker" "timesEnded" "I").before _ s = true := S.2.2.2.2 _ (List.mem_of_getElem? (i := 2) rfl)
  have hf24 : (Cond.fieldLink RX8 24 "PackThreads$Worker" "interrupted" "Z").before _ s = true := S.2.2.2.2 _ (List.mem_of_getElem? (i := 3) rfl)
  have hS : va_S A s.heap s.heap [] := va_S.rf
  have hl := lv_entry ([.ref (ad (9 + a0.toNatClampNeg))]) (n := 1) (Nat.le_of_ble_eq_true rfl)
  rw [lg_entry_eq]
  generalize (lg_sl ([.ref (ad (9 + a0.toNatClampNeg))]) ++ List.replicate (1 - (lg_sl ([.ref (ad (9 + a0.toNatClampNeg))])).length) Slot.unset).toArray = ls at hl ⊢
  have hl : lv_has ls 1 [(0, .ref (ad (9 + a0.toNatClampNeg)))] := hl
  unfold f_X8_renew at h
  refine lv_aload_n hx hb dX8_renew_0 rfl (lv_at hl 0 rfl) ?_
  replace h := pt_b1s h; obtain ⟨σ1, e1, h⟩ := h
  refine pt_cVv (As := []) (rest := []) S (m_X8_becomeFree l hDa ha0 e1) (cwV 0 S.2.2.2.2 gX8_renew_X8_becomeFree rfl rfl rfl (by decide +kernel) ⟨Nat.le_of_ble_eq_true rfl, Nat.le_of_ble_eq_true rfl⟩) hK hP hS hZ (9 + a0.toNatClampNeg) 8 (pt_w8 (pt_in_lt ha0) ca ad σ) rfl rfl hl.1 rfl (Nat.le_of_ble_eq_true rfl) dX8_renew_1 ⟨Nat.zero_le _, Nat.zero_le _⟩ (fun H locs hP hS => ?_)
  refine lv_aload_n hx hb dX8_renew_4 rfl (lv_at hl 0 rfl) ?_
  refine lv_iconst (v := 0) hx hb dX8_renew_5 (by decide) ?_
  replace h := pt_dos h; obtain ⟨σ2, e2, h⟩ := h
  refine pf_X8_5 (pt_in_lt ha0) S hiX8 hK hP hDa hS hf18 e2 dX8_renew_6 (fun H locs hP hS => ?_)
  refine lv_aload_n hx hb dX8_renew_9 rfl (lv_at hl 0 rfl) ?_
  refine lv_iconst (v := 0) hx hb dX8_renew_10 (by decide) ?_
  replace h := pt_dos h; obtain ⟨σ3, e3, h⟩ := h
  refine pf_X8_6 (pt_in_lt ha0) S hiX8 hK hP hDa hS hf21 e3 dX8_renew_11 (fun H locs hP hS => ?_)
  refine lv_aload_n hx hb dX8_renew_14 rfl (lv_at hl 0 rfl) ?_
  refine lv_iconst (v := 0) hx hb dX8_renew_15 (by decide) ?_
  replace h := pt_dos h; obtain ⟨σ4, e4, h⟩ := h
  refine pf_X8_7 (pt_in_lt ha0) S hiX8 hK hP hDa hS hf24 (Or.inl rfl) e4 dX8_renew_16 (fun H locs hP hS => ?_)
  exact pt_vret S hr hlk hP hS (congrArg (wC ca ad) (pt_so h)) dX8_renew_19

def f_X8_choose (σ : pt_St) (a0 : Int32) (a1 : Int32) (a2 : Int32) : Option pt_St :=
  pt_do (pt_put σ (9 + a0.toNatClampNeg) 2 a1) fun σ1 =>
  pt_do (pt_put σ1 (9 + a0.toNatClampNeg) 4 a2) fun σ2 =>
  some σ2
set_option maxHeartbeats 4000000 in
set_option maxRecDepth 100000 in
theorem m_X8_choose (l : Launch) {D : va_G} {A : Nat → Prop} {ca : Nat → ClassId} {ad : Nat → Nat} {z : Nat × Nat} (hDa : ∀ σ, va_D A (wC ca ad σ)) {σ σ' : pt_St} {a0 : Int32} (ha0 : pt_iw a0) {a1 : Int32} {a2 : Int32} (h : f_X8_choose σ a0 a1 a2 = some σ') : Met l yX8_choose wsX8_choose { frames := 0, cells := 0, slots := 0, locals := 0 } (va_Pc [.ref (ad (9 + a0.toNatClampNeg)), .int a1, .int a2] (pt_Pre D (tysC ca) z A (wC ca ad σ))) (pt_Q none D (wC ca ad σ') A) 0 0 A := by
  refine Met.ofW (cc := cX8_choose) (maxL := 3) (ret := none) (by decide) rfl ?_
  intro p e s m args below meth c s₁ B hml hv
  obtain ⟨rfl, hP, hK, hZ⟩ := hv
  have S : CallFix p m c cX8_choose 3 s ([.ref (ad (9 + a0.toNatClampNeg)), .int a1, .int a2] : List Value).toArray wsX8_choose RX8 := ⟨B.exec, B.bytes, hml, findClass_of_methodNamed B.named, atoms_spec (ws := wsX8_choose) B.pre⟩
  have hx := S.1
  have hb := S.2.1
  have hr := B.returns
  have hlk := B.notSynchronized
  clear B
  have hiX8 : ∀ w ∈ wsX80, w ∈ wsX8_choose := fun w h => List.mem_cons_of_mem _ (List.mem_append_right _ h)
  have hf31 : (Cond.fieldLink RX8 31 "PackThreads$Worker" "block" "I").before _ s = true := S.2.2.2.2 _ (List.mem_of_getElem? (i := 1) rfl)
  have hf37 : (Cond.fieldLink RX8 37 "PackThreads$Worker" "cells" "I").before _ s = true := S.2.2.2.2 _ (List.mem_of_getElem? (i := 2) rfl)
  have hS : va_S A s.heap s.heap [] := va_S.rf
  have hl := lv_entry ([.ref (ad (9 + a0.toNatClampNeg)), .int a1, .int a2]) (n := 3) (Nat.le_of_ble_eq_true rfl)
  rw [lg_entry_eq]
  generalize (lg_sl ([.ref (ad (9 + a0.toNatClampNeg)), .int a1, .int a2]) ++ List.replicate (3 - (lg_sl ([.ref (ad (9 + a0.toNatClampNeg)), .int a1, .int a2])).length) Slot.unset).toArray = ls at hl ⊢
  have hl : lv_has ls 3 [(0, .ref (ad (9 + a0.toNatClampNeg))), (1, .int a1), (2, .int a2)] := hl
  unfold f_X8_choose at h
  refine lv_aload_n hx hb dX8_choose_0 rfl (lv_at hl 0 rfl) ?_
  refine lv_iload_n hx hb dX8_choose_1 rfl (lv_at hl 1 rfl) ?_
  replace h := pt_dos h; obtain ⟨σ1, e1, h⟩ := h
  refine pf_X8_2 (pt_in_lt ha0) S hiX8 hK hP hDa hS hf31 e1 dX8_choose_2 (fun H locs hP hS => ?_)
  refine lv_aload_n hx hb dX8_choose_5 rfl (lv_at hl 0 rfl) ?_
  refine lv_iload_n hx hb dX8_choose_6 rfl (lv_at hl 2 rfl) ?_
  replace h := pt_dos h; obtain ⟨σ2, e2, h⟩ := h
  refine pf_X8_4 (pt_in_lt ha0) S hiX8 hK hP hDa hS hf37 e2 dX8_choose_7 (fun H locs hP hS => ?_)
  exact pt_vret S hr hlk hP hS (congrArg (wC ca ad) (pt_so h)) dX8_choose_10

def f_X8_end (σ : pt_St) (a0 : Int32) : Option pt_St :=
  pt_b1 (f_X8_becomeFree σ a0) fun σ1 =>
  pt_do (pt_put σ1 (9 + a0.toNatClampNeg) 1 (4 : Int32)) fun σ2 =>
  pt_do (pt_put σ2 (9 + a0.toNatClampNeg) 6 ((σ2 (9 + a0.toNatClampNeg) 6) + (1 : Int32))) fun σ3 =>
  some σ3
set_option maxHeartbeats 4000000 in
set_option maxRecDepth 100000 in
theorem m_X8_end (l : Launch) {D : va_G} {A : Nat → Prop} {ca : Nat → ClassId} {ad : Nat → Nat} {z : Nat × Nat} (hDa : ∀ σ, va_D A (wC ca ad σ)) {σ σ' : pt_St} {a0 : Int32} (ha0 : pt_iw a0) (h : f_X8_end σ a0 = some σ') : Met l yX8_end wsX8_end { frames := 1, cells := 0, slots := 0, locals := 20 } (va_Pc [.ref (ad (9 + a0.toNatClampNeg))] (pt_Pre D (tysC ca) z A (wC ca ad σ))) (pt_Q none D (wC ca ad σ') A) 0 0 A := by
  refine Met.ofW (cc := cX8_end) (maxL := 1) (ret := none) (by decide) rfl ?_
  intro p e s m args below meth c s₁ B hml hv
  obtain ⟨rfl, hP, hK, hZ⟩ := hv
  have S : CallFix p m c cX8_end 1 s ([.ref (ad (9 + a0.toNatClampNeg))] : List Value).toArray wsX8_end RX8 := ⟨B.exec, B.bytes, hml, findClass_of_methodNamed B.named, atoms_spec (ws := wsX8_end) B.pre⟩
  have hx := S.1
  have hb := S.2.1
  have hr := B.returns
  have hlk := B.notSynchronized
  clear B
  have hiX8 : ∀ w ∈ wsX80, w ∈ wsX8_end := fun w h => List.mem_cons_of_mem _ (List.mem_append_right _ h)
  have hf28 : (Cond.fieldLink RX8 28 "PackThreads$Worker" "state" "I").before _ s = true := S.2.2.2.2 _ (List.mem_of_getElem? (i := 1) rfl)
  have hf21 : (Cond.fieldLink RX8 21 "PackThreads$Worker" "timesEnded" "I").before _ s = true := S.2.2.2.2 _ (List.mem_of_getElem? (i := 2) rfl)
  have hS : va_S A s.heap s.heap [] := va_S.rf
  have hl := lv_entry ([.ref (ad (9 + a0.toNatClampNeg))]) (n := 1) (Nat.le_of_ble_eq_true rfl)
  rw [lg_entry_eq]
  generalize (lg_sl ([.ref (ad (9 + a0.toNatClampNeg))]) ++ List.replicate (1 - (lg_sl ([.ref (ad (9 + a0.toNatClampNeg))])).length) Slot.unset).toArray = ls at hl ⊢
  have hl : lv_has ls 1 [(0, .ref (ad (9 + a0.toNatClampNeg)))] := hl
  unfold f_X8_end at h
  refine lv_aload_n hx hb dX8_end_0 rfl (lv_at hl 0 rfl) ?_
  replace h := pt_b1s h; obtain ⟨σ1, e1, h⟩ := h
  refine pt_cVv (As := []) (rest := []) S (m_X8_becomeFree l hDa ha0 e1) (cwV 0 S.2.2.2.2 gX8_end_X8_becomeFree rfl rfl rfl (by decide +kernel) ⟨Nat.le_of_ble_eq_true rfl, Nat.le_of_ble_eq_true rfl⟩) hK hP hS hZ (9 + a0.toNatClampNeg) 8 (pt_w8 (pt_in_lt ha0) ca ad σ) rfl rfl hl.1 rfl (Nat.le_of_ble_eq_true rfl) dX8_end_1 ⟨Nat.zero_le _, Nat.zero_le _⟩ (fun H locs hP hS => ?_)
  refine lv_aload_n hx hb dX8_end_4 rfl (lv_at hl 0 rfl) ?_
  refine lv_iconst (v := 4) hx hb dX8_end_5 (by decide) ?_
  replace h := pt_dos h; obtain ⟨σ2, e2, h⟩ := h
  refine pf_X8_1 (pt_in_lt ha0) S hiX8 hK hP hDa hS hf28 e2 dX8_end_6 (fun H locs hP hS => ?_)
  refine lv_aload_n hx hb dX8_end_9 rfl (lv_at hl 0 rfl) ?_
  refine lv_dup hx hb dX8_end_10 rfl ?_
  refine gf_X8_6 (pt_in_lt ha0) S hiX8 hK hP hf21 dX8_end_11 ?_
  refine lv_iconst (v := 1) hx hb dX8_end_14 (by decide) ?_
  refine lv_iadd hx hb dX8_end_15 ?_
  replace h := pt_dos h; obtain ⟨σ3, e3, h⟩ := h
  refine pf_X8_6 (pt_in_lt ha0) S hiX8 hK hP hDa hS hf21 e3 dX8_end_16 (fun H locs hP hS => ?_)
  exact pt_vret S hr hlk hP hS (congrArg (wC ca ad) (pt_so h)) dX8_end_19

def f_X8_holdPack (σ : pt_St) (a0 : Int32) : Option pt_St :=
  pt_do (pt_put σ (9 + a0.toNatClampNeg) 1 (3 : Int32)) fun σ1 =>
  pt_do (pt_put σ1 (9 + a0.toNatClampNeg) 3 (-1 : Int32)) fun σ2 =>
  pt_do (pt_put σ2 (9 + a0.toNatClampNeg) 5 ((σ2 (9 + a0.toNatClampNeg) 5) + (1 : Int32))) fun σ3 =>
  some σ3
set_option maxHeartbeats 4000000 in
set_option maxRecDepth 100000 in
theorem m_X8_holdPack (l : Launch) {D : va_G} {A : Nat → Prop} {ca : Nat → ClassId} {ad : Nat → Nat} {z : Nat × Nat} (hDa : ∀ σ, va_D A (wC ca ad σ)) {σ σ' : pt_St} {a0 : Int32} (ha0 : pt_iw a0) (h : f_X8_holdPack σ a0 = some σ') : Met l yX8_holdPack wsX8_holdPack { frames := 0, cells := 0, slots := 0, locals := 0 } (va_Pc [.ref (ad (9 + a0.toNatClampNeg))] (pt_Pre D (tysC ca) z A (wC ca ad σ))) (pt_Q none D (wC ca ad σ') A) 0 0 A := by
  refine Met.ofW (cc := cX8_holdPack) (maxL := 1) (ret := none) (by decide) rfl ?_
  intro p e s m args below meth c s₁ B hml hv
  obtain ⟨rfl, hP, hK, hZ⟩ := hv
  have S : CallFix p m c cX8_holdPack 1 s ([.ref (ad (9 + a0.toNatClampNeg))] : List Value).toArray wsX8_holdPack RX8 := ⟨B.exec, B.bytes, hml, findClass_of_methodNamed B.named, atoms_spec (ws := wsX8_holdPack) B.pre⟩
  have hx := S.1
  have hb := S.2.1
  have hr := B.returns
  have hlk := B.notSynchronized
  clear B
  have hiX8 : ∀ w ∈ wsX80, w ∈ wsX8_holdPack := fun w h => List.mem_cons_of_mem _ (List.mem_append_right _ h)
  have hf28 : (Cond.fieldLink RX8 28 "PackThreads$Worker" "state" "I").before _ s = true := S.2.2.2.2 _ (List.mem_of_getElem? (i := 1) rfl)
  have hf34 : (Cond.fieldLink RX8 34 "PackThreads$Worker" "step" "I").before _ s = true := S.2.2.2.2 _ (List.mem_of_getElem? (i := 2) rfl)
  have hf18 : (Cond.fieldLink RX8 18 "PackThreads$Worker" "made" "I").before _ s = true := S.2.2.2.2 _ (List.mem_of_getElem? (i := 3) rfl)
  have hS : va_S A s.heap s.heap [] := va_S.rf
  have hl := lv_entry ([.ref (ad (9 + a0.toNatClampNeg))]) (n := 1) (Nat.le_of_ble_eq_true rfl)
  rw [lg_entry_eq]
  generalize (lg_sl ([.ref (ad (9 + a0.toNatClampNeg))]) ++ List.replicate (1 - (lg_sl ([.ref (ad (9 + a0.toNatClampNeg))])).length) Slot.unset).toArray = ls at hl ⊢
  have hl : lv_has ls 1 [(0, .ref (ad (9 + a0.toNatClampNeg)))] := hl
  unfold f_X8_holdPack at h
  refine lv_aload_n hx hb dX8_holdPack_0 rfl (lv_at hl 0 rfl) ?_
  refine lv_iconst (v := 3) hx hb dX8_holdPack_1 (by decide) ?_
  replace h := pt_dos h; obtain ⟨σ1, e1, h⟩ := h
  refine pf_X8_1 (pt_in_lt ha0) S hiX8 hK hP hDa hS hf28 e1 dX8_holdPack_2 (fun H locs hP hS => ?_)
  refine lv_aload_n hx hb dX8_holdPack_5 rfl (lv_at hl 0 rfl) ?_
  refine lv_iconst (v := -1) hx hb dX8_holdPack_6 (by decide) ?_
  replace h := pt_dos h; obtain ⟨σ2, e2, h⟩ := h
  refine pf_X8_3 (pt_in_lt ha0) S hiX8 hK hP hDa hS hf34 e2 dX8_holdPack_7 (fun H locs hP hS => ?_)
  refine lv_aload_n hx hb dX8_holdPack_10 rfl (lv_at hl 0 rfl) ?_
  refine lv_dup hx hb dX8_holdPack_11 rfl ?_
  refine gf_X8_5 (pt_in_lt ha0) S hiX8 hK hP hf18 dX8_holdPack_12 ?_
  refine lv_iconst (v := 1) hx hb dX8_holdPack_15 (by decide) ?_
  refine lv_iadd hx hb dX8_holdPack_16 ?_
  replace h := pt_dos h; obtain ⟨σ3, e3, h⟩ := h
  refine pf_X8_5 (pt_in_lt ha0) S hiX8 hK hP hDa hS hf18 e3 dX8_holdPack_17 (fun H locs hP hS => ?_)
  exact pt_vret S hr hlk hP hS (congrArg (wC ca ad) (pt_so h)) dX8_holdPack_20

def f_X7_isFull (σ : pt_St) : Option (Int32 × pt_St) :=
  if (σ 1 1) < (160 : Int32) then
  some ((0 : Int32), σ)
  else
  some ((1 : Int32), σ)
set_option maxHeartbeats 4000000 in
set_option maxRecDepth 100000 in
theorem m_X7_isFull (l : Launch) {D : va_G} {A : Nat → Prop} {ca : Nat → ClassId} {ad : Nat → Nat} {z : Nat × Nat} (hDa : ∀ σ, va_D A (wC ca ad σ)) {σ σ' : pt_St} {r : Int32} (h : f_X7_isFull σ = some (r, σ')) : Met l yX7_isFull wsX7_isFull { frames := 0, cells := 0, slots := 0, locals := 0 } (va_Pc [.ref (ad 1)] (pt_Pre D (tysC ca) z A (wC ca ad σ))) (pt_Q (some (.int r)) D (wC ca ad σ') A) 0 0 A := by
  refine Met.ofW (cc := cX7_isFull) (maxL := 1) (ret := (some .boolean)) (by decide) rfl ?_
  intro p e s m args below meth c s₁ B hml hv
  obtain ⟨rfl, hP, hK, hZ⟩ := hv
  have S : CallFix p m c cX7_isFull 1 s ([.ref (ad 1)] : List Value).toArray wsX7_isFull RX7 := ⟨B.exec, B.bytes, hml, findClass_of_methodNamed B.named, atoms_spec (ws := wsX7_isFull) B.pre⟩
  have hx := S.1
  have hb := S.2.1
  have hr := B.returns
  have hlk := B.notSynchronized
  clear B
  have hiX7 : ∀ w ∈ wsX70, w ∈ wsX7_isFull := fun w h => List.mem_cons_of_mem _ (List.mem_append_right _ h)
  have hf15 : (Cond.fieldLink RX7 15 "PackThreads$Text" "length" "I").before _ s = true := S.2.2.2.2 _ (List.mem_of_getElem? (i := 1) rfl)
  have hf9 : (Cond.fieldLink RX7 9 "PackThreads$Text" "bytes" "[I").before _ s = true := S.2.2.2.2 _ (List.mem_of_getElem? (i := 2) rfl)
  have hS : va_S A s.heap s.heap [] := va_S.rf
  have hl := lv_entry ([.ref (ad 1)]) (n := 1) (Nat.le_of_ble_eq_true rfl)
  rw [lg_entry_eq]
  generalize (lg_sl ([.ref (ad 1)]) ++ List.replicate (1 - (lg_sl ([.ref (ad 1)])).length) Slot.unset).toArray = ls at hl ⊢
  have hl : lv_has ls 1 [(0, .ref (ad 1))] := hl
  unfold f_X7_isFull at h
  refine lv_aload_n hx hb dX7_isFull_0 rfl (lv_at hl 0 rfl) ?_
  refine gf_X7_1 S hiX7 hK hP hf15 dX7_isFull_1 ?_
  refine lv_aload_n hx hb dX7_isFull_4 rfl (lv_at hl 0 rfl) ?_
  refine gf_X7_0 S hiX7 hK hP hf9 dX7_isFull_5 ?_
  refine ln_C_15 S hK hP dX7_isFull_8 ?_
  refine lv_icmp_lt (tgt := 16) hx hb dX7_isFull_9 (by decide) (fun c1 => ?_) (fun c1 => ?_)
  · replace h := pt_ip c1 h
    refine lv_iconst (v := 0) hx hb dX7_isFull_16 (by decide) ?_
    exact pt_zret S hr hlk hP hS (Or.inl rfl) (pt_pr h).1 (congrArg (wC ca ad) (pt_pr h).2) dX7_isFull_17
  · replace h := pt_iN c1 h
    refine lv_iconst (v := 1) hx hb dX7_isFull_12 (by decide) ?_
    refine lv_goto (tgt := 17) hx hb dX7_isFull_13 (by decide) ?_
    exact pt_zret S hr hlk hP hS (Or.inr rfl) (pt_pr h).1 (congrArg (wC ca ad) (pt_pr h).2) dX7_isFull_17

def f_X7_add (σ : pt_St) (a1 : Int32) : Option pt_St :=
  if (σ 1 1) < (0 : Int32) then
  some σ
  else
  if (160 : Int32) ≤ (σ 1 1) then
  some σ
  else
  if pt_in (σ 1 1) 160 then
  pt_do (pt_put σ 15 (σ 1 1).toNatClampNeg a1) fun σ4 =>
  pt_do (pt_put σ4 1 1 ((σ4 1 1) + (1 : Int32))) fun σ5 =>
  some σ5
  else none
set_option maxHeartbeats 4000000 in
set_option maxRecDepth 100000 in
theorem m_X7_add (l : Launch) {D : va_G} {A : Nat → Prop} {ca : Nat → ClassId} {ad : Nat → Nat} {z : Nat × Nat} (hDa : ∀ σ, va_D A (wC ca ad σ)) {σ σ' : pt_St} {a1 : Int32} (h : f_X7_add σ a1 = some σ') : Met l yX7_add wsX7_add { frames := 0, cells := 0, slots := 0, locals := 0 } (va_Pc [.ref (ad 1), .int a1] (pt_Pre D (tysC ca) z A (wC ca ad σ))) (pt_Q none D (wC ca ad σ') A) 0 0 A := by
  refine Met.ofW (cc := cX7_add) (maxL := 2) (ret := none) (by decide) rfl ?_
  intro p e s m args below meth c s₁ B hml hv
  obtain ⟨rfl, hP, hK, hZ⟩ := hv
  have S : CallFix p m c cX7_add 2 s ([.ref (ad 1), .int a1] : List Value).toArray wsX7_add RX7 := ⟨B.exec, B.bytes, hml, findClass_of_methodNamed B.named, atoms_spec (ws := wsX7_add) B.pre⟩
  have hx := S.1
  have hb := S.2.1
  have hr := B.returns
  have hlk := B.notSynchronized
  clear B
  have hiX7 : ∀ w ∈ wsX70, w ∈ wsX7_add := fun w h => List.mem_cons_of_mem _ (List.mem_append_right _ h)
  have hf15 : (Cond.fieldLink RX7 15 "PackThreads$Text" "length" "I").before _ s = true := S.2.2.2.2 _ (List.mem_of_getElem? (i := 1) rfl)
  have hf9 : (Cond.fieldLink RX7 9 "PackThreads$Text" "bytes" "[I").before _ s = true := S.2.2.2.2 _ (List.mem_of_getElem? (i := 2) rfl)
  have hS : va_S A s.heap s.heap [] := va_S.rf
  have hl := lv_entry ([.ref (ad 1), .int a1]) (n := 2) (Nat.le_of_ble_eq_true rfl)
  rw [lg_entry_eq]
  generalize (lg_sl ([.ref (ad 1), .int a1]) ++ List.replicate (2 - (lg_sl ([.ref (ad 1), .int a1])).length) Slot.unset).toArray = ls at hl ⊢
  have hl : lv_has ls 2 [(0, .ref (ad 1)), (1, .int a1)] := hl
  unfold f_X7_add at h
  refine lv_aload_n hx hb dX7_add_0 rfl (lv_at hl 0 rfl) ?_
  refine gf_X7_1 S hiX7 hK hP hf15 dX7_add_1 ?_
  refine lv_if_lt (tgt := 39) hx hb dX7_add_4 (by decide) (fun c1 => ?_) (fun c1 => ?_)
  · replace h := pt_ip c1 h
    exact pt_vret S hr hlk hP hS (congrArg (wC ca ad) (pt_so h)) dX7_add_39
  · replace h := pt_iN c1 h
    refine lv_aload_n hx hb dX7_add_7 rfl (lv_at hl 0 rfl) ?_
    refine gf_X7_1 S hiX7 hK hP hf15 dX7_add_8 ?_
    refine lv_aload_n hx hb dX7_add_11 rfl (lv_at hl 0 rfl) ?_
    refine gf_X7_0 S hiX7 hK hP hf9 dX7_add_12 ?_
    refine ln_C_15 S hK hP dX7_add_15 ?_
    refine lv_icmp_ge (tgt := 39) hx hb dX7_add_16 (by decide) (fun c2 => ?_) (fun c2 => ?_)
    · replace h := pt_ip c2 h
      exact pt_vret S hr hlk hP hS (congrArg (wC ca ad) (pt_so h)) dX7_add_39
    · replace h := pt_iN c2 h
      refine lv_aload_n hx hb dX7_add_19 rfl (lv_at hl 0 rfl) ?_
      refine gf_X7_0 S hiX7 hK hP hf9 dX7_add_20 ?_
      refine lv_aload_n hx hb dX7_add_23 rfl (lv_at hl 0 rfl) ?_
      refine gf_X7_1 S hiX7 hK hP hf15 dX7_add_24 ?_
      refine lv_iload_n hx hb dX7_add_27 rfl (lv_at hl 1 rfl) ?_
      replace h := pt_gd h; obtain ⟨g3, h⟩ := h
      replace h := pt_dos h; obtain ⟨σ4, e4, h⟩ := h
      refine st_C_15 S hK hP hDa hS g3 e4 dX7_add_28 (fun H locs hP hS => ?_)
      refine lv_aload_n hx hb dX7_add_29 rfl (lv_at hl 0 rfl) ?_
      refine lv_dup hx hb dX7_add_30 rfl ?_
      refine gf_X7_1 S hiX7 hK hP hf15 dX7_add_31 ?_
      refine lv_iconst (v := 1) hx hb dX7_add_34 (by decide) ?_
      refine lv_iadd hx hb dX7_add_35 ?_
      replace h := pt_dos h; obtain ⟨σ5, e5, h⟩ := h
      refine pf_X7_1 S hiX7 hK hP hDa hS hf15 e5 dX7_add_36 (fun H locs hP hS => ?_)
      exact pt_vret S hr hlk hP hS (congrArg (wC ca ad) (pt_so h)) dX7_add_39

def f_X7_empty (σ : pt_St) : Option pt_St :=
  pt_do (pt_put σ 1 1 (0 : Int32)) fun σ1 =>
  some σ1
set_option maxHeartbeats 4000000 in
set_option maxRecDepth 100000 in
theorem m_X7_empty (l : Launch) {D : va_G} {A : Nat → Prop} {ca : Nat → ClassId} {ad : Nat → Nat} {z : Nat × Nat} (hDa : ∀ σ, va_D A (wC ca ad σ)) {σ σ' : pt_St} (h : f_X7_empty σ = some σ') : Met l yX7_empty wsX7_empty { frames := 0, cells := 0, slots := 0, locals := 0 } (va_Pc [.ref (ad 1)] (pt_Pre D (tysC ca) z A (wC ca ad σ))) (pt_Q none D (wC ca ad σ') A) 0 0 A := by
  refine Met.ofW (cc := cX7_empty) (maxL := 1) (ret := none) (by decide) rfl ?_
  intro p e s m args below meth c s₁ B hml hv
  obtain ⟨rfl, hP, hK, hZ⟩ := hv
  have S : CallFix p m c cX7_empty 1 s ([.ref (ad 1)] : List Value).toArray wsX7_empty RX7 := ⟨B.exec, B.bytes, hml, findClass_of_methodNamed B.named, atoms_spec (ws := wsX7_empty) B.pre⟩
  have hx := S.1
  have hb := S.2.1
  have hr := B.returns
  have hlk := B.notSynchronized
  clear B
  have hiX7 : ∀ w ∈ wsX70, w ∈ wsX7_empty := fun w h => List.mem_cons_of_mem _ (List.mem_append_right _ h)
  have hf15 : (Cond.fieldLink RX7 15 "PackThreads$Text" "length" "I").before _ s = true := S.2.2.2.2 _ (List.mem_of_getElem? (i := 1) rfl)
  have hS : va_S A s.heap s.heap [] := va_S.rf
  have hl := lv_entry ([.ref (ad 1)]) (n := 1) (Nat.le_of_ble_eq_true rfl)
  rw [lg_entry_eq]
  generalize (lg_sl ([.ref (ad 1)]) ++ List.replicate (1 - (lg_sl ([.ref (ad 1)])).length) Slot.unset).toArray = ls at hl ⊢
  have hl : lv_has ls 1 [(0, .ref (ad 1))] := hl
  unfold f_X7_empty at h
  refine lv_aload_n hx hb dX7_empty_0 rfl (lv_at hl 0 rfl) ?_
  refine lv_iconst (v := 0) hx hb dX7_empty_1 (by decide) ?_
  replace h := pt_dos h; obtain ⟨σ1, e1, h⟩ := h
  refine pf_X7_1 S hiX7 hK hP hDa hS hf15 e1 dX7_empty_2 (fun H locs hP hS => ?_)
  exact pt_vret S hr hlk hP hS (congrArg (wC ca ad) (pt_so h)) dX7_empty_5
