def f_X10_in (σ : pt_St) (a1 : Int32) (a2 : Int32) (a3 : Int32) : Option (Int32 × pt_St) :=
  if a1 < a2 then
  some ((0 : Int32), σ)
  else
  if a3 < a1 then
  some ((0 : Int32), σ)
  else
  some ((1 : Int32), σ)
set_option maxHeartbeats 4000000 in
set_option maxRecDepth 100000 in
theorem m_X10_in (l : Launch) {D : va_G} {A : Nat → Prop} {ca : Nat → ClassId} {ad : Nat → Nat} {z : Nat × Nat} (hDa : ∀ σ, va_D A (wR ca ad σ)) {σ σ' : pt_St} {r : Int32} {a1 : Int32} {a2 : Int32} {a3 : Int32} (h : f_X10_in σ a1 a2 a3 = some (r, σ')) : Met l yX10_in wsX10_in { frames := 0, cells := 0, slots := 0, locals := 0 } (va_Pc [.int a1, .int a2, .int a3] (pt_Pre D (tysR ca) z A (wR ca ad σ))) (pt_Q (some (.int r)) D (wR ca ad σ') A) 0 0 A := by
  refine Met.ofW (cc := cX10_in) (maxL := 3) (ret := (some .boolean)) (by decide) rfl ?_
  intro p e s m args below meth c s₁ B hml hv
  obtain ⟨rfl, hP, hK, hZ⟩ := hv
  have S : CallFix p m c cX10_in 3 s ([.int a1, .int a2, .int a3] : List Value).toArray wsX10_in RX10 := ⟨B.exec, B.bytes, hml, findClass_of_methodNamed B.named, atoms_spec (ws := wsX10_in) B.pre⟩
  have hx := S.1
  have hb := S.2.1
  have hr := B.returns
  have hlk := B.notSynchronized
  clear B
  have hS : va_S A s.heap s.heap [] := va_S.rf
  have hl := lv_entry ([.int a1, .int a2, .int a3]) (n := 3) (Nat.le_of_ble_eq_true rfl)
  rw [lg_entry_eq]
  generalize (lg_sl ([.int a1, .int a2, .int a3]) ++ List.replicate (3 - (lg_sl ([.int a1, .int a2, .int a3])).length) Slot.unset).toArray = ls at hl ⊢
  have hl : lv_has ls 3 [(0, .int a1), (1, .int a2), (2, .int a3)] := hl
  unfold f_X10_in at h
  refine lv_iload_n hx hb dX10_in_0 rfl (lv_at hl 0 rfl) ?_
  refine lv_iload_n hx hb dX10_in_1 rfl (lv_at hl 1 rfl) ?_
  refine lv_icmp_lt (tgt := 14) hx hb dX10_in_2 (by decide) (fun c1 => ?_) (fun c1 => ?_)
  · replace h := pt_ip c1 h
    refine lv_iconst (v := 0) hx hb dX10_in_14 (by decide) ?_
    exact pt_zret S hr hlk hP hS (Or.inl rfl) (pt_pr h).1 (congrArg (wR ca ad) (pt_pr h).2) dX10_in_15
  · replace h := pt_iN c1 h
    refine lv_iload_n hx hb dX10_in_5 rfl (lv_at hl 0 rfl) ?_
    refine lv_iload_n hx hb dX10_in_6 rfl (lv_at hl 2 rfl) ?_
    refine lv_icmp_gt (tgt := 14) hx hb dX10_in_7 (by decide) (fun c2 => ?_) (fun c2 => ?_)
    · replace h := pt_ip c2 h
      refine lv_iconst (v := 0) hx hb dX10_in_14 (by decide) ?_
      exact pt_zret S hr hlk hP hS (Or.inl rfl) (pt_pr h).1 (congrArg (wR ca ad) (pt_pr h).2) dX10_in_15
    · replace h := pt_iN c2 h
      refine lv_iconst (v := 1) hx hb dX10_in_10 (by decide) ?_
      refine lv_goto (tgt := 15) hx hb dX10_in_11 (by decide) ?_
      exact pt_zret S hr hlk hP hS (Or.inr rfl) (pt_pr h).1 (congrArg (wR ca ad) (pt_pr h).2) dX10_in_15

def f_X10_type (σ : pt_St) (a1 : Int32) : Option (Int32 × pt_St) :=
  pt_b2 (f_X10_in σ a1 (0 : Int32) (255 : Int32)) fun r1 σ1 =>
  if r1 = (0 : Int32) then
  some ((-2 : Int32), σ1)
  else
  if (σ1 0 14) = (0 : Int32) then
  if (σ1 0 1) = (160 : Int32) then
  some ((-4 : Int32), σ1)
  else
  if pt_in (σ1 0 1) 160 then
  pt_do (pt_put σ1 1 (σ1 0 1).toNatClampNeg a1) fun σ6 =>
  pt_do (pt_put σ6 0 1 ((σ6 0 1) + (1 : Int32))) fun σ7 =>
  pt_do (pt_put σ7 0 9 (0 : Int32)) fun σ8 =>
  some ((σ8 0 1), σ8)
  else none
  else
  some ((-3 : Int32), σ1)
set_option maxHeartbeats 4000000 in
set_option maxRecDepth 100000 in
theorem m_X10_type (l : Launch) {D : va_G} {A : Nat → Prop} {ca : Nat → ClassId} {ad : Nat → Nat} {z : Nat × Nat} (hDa : ∀ σ, va_D A (wR ca ad σ)) {σ σ' : pt_St} {r : Int32} {a1 : Int32} (h : f_X10_type σ a1 = some (r, σ')) : Met l yX10_type wsX10_type { frames := 1, cells := 0, slots := 0, locals := 22 } (va_Pc [.ref (ad 0), .int a1] (pt_Pre D (tysR ca) z A (wR ca ad σ))) (pt_Q (some (.int r)) D (wR ca ad σ') A) 0 0 A := by
  refine Met.ofW (cc := cX10_type) (maxL := 2) (ret := (some .int)) (by decide) rfl ?_
  intro p e s m args below meth c s₁ B hml hv
  obtain ⟨rfl, hP, hK, hZ⟩ := hv
  have S : CallFix p m c cX10_type 2 s ([.ref (ad 0), .int a1] : List Value).toArray wsX10_type RX10 := ⟨B.exec, B.bytes, hml, findClass_of_methodNamed B.named, atoms_spec (ws := wsX10_type) B.pre⟩
  have hx := S.1
  have hb := S.2.1
  have hr := B.returns
  have hlk := B.notSynchronized
  clear B
  have hiX10 : ∀ w ∈ wsX100, w ∈ wsX10_type := fun w h => List.mem_cons_of_mem _ (List.mem_append_right _ h)
  have hf82 : (Cond.fieldLink RX10 82 "PackThreadsModel" "isBegun" "Z").before _ s = true := S.2.2.2.2 _ (List.mem_of_getElem? (i := 1) rfl)
  have hf75 : (Cond.fieldLink RX10 75 "PackThreadsModel" "size" "I").before _ s = true := S.2.2.2.2 _ (List.mem_of_getElem? (i := 2) rfl)
  have hf7 : (Cond.fieldLink RX10 7 "PackThreadsModel" "text" "[I").before _ s = true := S.2.2.2.2 _ (List.mem_of_getElem? (i := 3) rfl)
  have hf86 : (Cond.fieldLink RX10 86 "PackThreadsModel" "isPacked" "Z").before _ s = true := S.2.2.2.2 _ (List.mem_of_getElem? (i := 4) rfl)
  have hS : va_S A s.heap s.heap [] := va_S.rf
  have hl := lv_entry ([.ref (ad 0), .int a1]) (n := 2) (Nat.le_of_ble_eq_true rfl)
  rw [lg_entry_eq]
  generalize (lg_sl ([.ref (ad 0), .int a1]) ++ List.replicate (2 - (lg_sl ([.ref (ad 0), .int a1])).length) Slot.unset).toArray = ls at hl ⊢
  have hl : lv_has ls 2 [(0, .ref (ad 0)), (1, .int a1)] := hl
  unfold f_X10_type at h
  refine lv_iload_n hx hb dX10_type_0 rfl (lv_at hl 1 rfl) ?_
  refine lv_iconst (v := 0) hx hb dX10_type_1 (by decide) ?_
  refine lv_sipush (v := 255) hx hb dX10_type_2 (by decide) ?_
  replace h := pt_b2s h; obtain ⟨r1, σ1, e1, h⟩ := h
  refine pt_cSi (As := [.int a1, .int (0 : Int32), .int (255 : Int32)]) (rest := []) S (m_X10_in l hDa e1) (cwS 3 S.2.2.2.2 gX10_type_X10_in rfl rfl rfl (by decide +kernel) ⟨Nat.le_of_ble_eq_true rfl, Nat.le_of_ble_eq_true rfl⟩) hK hP hS hZ rfl hl.1 rfl (Nat.le_of_ble_eq_true rfl) dX10_type_5 ⟨Nat.zero_le _, Nat.zero_le _⟩ (fun H locs hP hS => ?_)
  refine lv_if_ne (tgt := 14) hx hb dX10_type_8 (by decide) (fun c2 => ?_) (fun c2 => ?_)
  · replace h := pt_iN c2 h
    refine lv_aload_n hx hb dX10_type_14 rfl (lv_at hl 0 rfl) ?_
    refine gf_X10_14 S hiX10 hK hP hf82 dX10_type_15 ?_
    refine lv_if_eq (tgt := 24) hx hb dX10_type_18 (by decide) (fun c3 => ?_) (fun c3 => ?_)
    · replace h := pt_ip c3 h
      refine lv_aload_n hx hb dX10_type_24 rfl (lv_at hl 0 rfl) ?_
      refine gf_X10_1 S hiX10 hK hP hf75 dX10_type_25 ?_
      refine lv_sipush (v := 160) hx hb dX10_type_28 (by decide) ?_
      refine lv_icmp_ne (tgt := 37) hx hb dX10_type_31 (by decide) (fun c4 => ?_) (fun c4 => ?_)
      · replace h := pt_iN c4 h
        refine lv_aload_n hx hb dX10_type_37 rfl (lv_at hl 0 rfl) ?_
        refine gf_X10_0 S hiX10 hK hP hf7 dX10_type_38 ?_
        refine lv_aload_n hx hb dX10_type_41 rfl (lv_at hl 0 rfl) ?_
        refine gf_X10_1 S hiX10 hK hP hf75 dX10_type_42 ?_
        refine lv_iload_n hx hb dX10_type_45 rfl (lv_at hl 1 rfl) ?_
        replace h := pt_gd h; obtain ⟨g5, h⟩ := h
        replace h := pt_dos h; obtain ⟨σ6, e6, h⟩ := h
        refine st_R_1 S hK hP hDa hS g5 e6 dX10_type_46 (fun H locs hP hS => ?_)
        refine lv_aload_n hx hb dX10_type_47 rfl (lv_at hl 0 rfl) ?_
        refine lv_dup hx hb dX10_type_48 rfl ?_
        refine gf_X10_1 S hiX10 hK hP hf75 dX10_type_49 ?_
        refine lv_iconst (v := 1) hx hb dX10_type_52 (by decide) ?_
        refine lv_iadd hx hb dX10_type_53 ?_
        replace h := pt_dos h; obtain ⟨σ7, e7, h⟩ := h
        refine pf_X10_1 S hiX10 hK hP hDa hS hf75 e7 dX10_type_54 (fun H locs hP hS => ?_)
        refine lv_aload_n hx hb dX10_type_57 rfl (lv_at hl 0 rfl) ?_
        refine lv_iconst (v := 0) hx hb dX10_type_58 (by decide) ?_
        replace h := pt_dos h; obtain ⟨σ8, e8, h⟩ := h
        refine pf_X10_9 S hiX10 hK hP hDa hS hf86 (Or.inl rfl) e8 dX10_type_59 (fun H locs hP hS => ?_)
        refine lv_aload_n hx hb dX10_type_62 rfl (lv_at hl 0 rfl) ?_
        refine gf_X10_1 S hiX10 hK hP hf75 dX10_type_63 ?_
        exact pt_iret S hr hlk hP hS (pt_pr h).1 (congrArg (wR ca ad) (pt_pr h).2) dX10_type_66
      · replace h := pt_ip c4 h
        refine lv_bipush (v := -4) hx hb dX10_type_34 (by decide) ?_
        exact pt_iret S hr hlk hP hS (pt_pr h).1 (congrArg (wR ca ad) (pt_pr h).2) dX10_type_36
    · replace h := pt_iN c3 h
      refine lv_bipush (v := -3) hx hb dX10_type_21 (by decide) ?_
      exact pt_iret S hr hlk hP hS (pt_pr h).1 (congrArg (wR ca ad) (pt_pr h).2) dX10_type_23
  · replace h := pt_ip c2 h
    refine lv_bipush (v := -2) hx hb dX10_type_11 (by decide) ?_
    exact pt_iret S hr hlk hP hS (pt_pr h).1 (congrArg (wR ca ad) (pt_pr h).2) dX10_type_13

def f_X10_set (σ : pt_St) (a1 : Int32) (a2 : Int32) : Option (Int32 × pt_St) :=
  if a1 = (0 : Int32) then
  pt_b2 (f_X10_in σ a2 (4 : Int32) (32 : Int32)) fun r2 σ2 =>
  if r2 = (0 : Int32) then
  some ((-2 : Int32), σ2)
  else
  if (σ2 0 14) = (0 : Int32) then
  pt_do (pt_put σ2 0 2 a2) fun σ7 =>
  pt_do (pt_put σ7 0 3 (σ7 0 3)) fun σ9 =>
  pt_do (pt_put σ9 0 4 (σ9 0 4)) fun σ11 =>
  pt_do (pt_put σ11 0 5 (σ11 0 5)) fun σ13 =>
  pt_do (pt_put σ13 0 9 (0 : Int32)) fun σ14 =>
  some ((σ2 0 2), σ14)
  else
  some ((-3 : Int32), σ2)
  else
  if a1 = (1 : Int32) then
  pt_b2 (f_X10_in σ a2 (0 : Int32) (64 : Int32)) fun r16 σ16 =>
  if r16 = (0 : Int32) then
  some ((-2 : Int32), σ16)
  else
  if (σ16 0 14) = (0 : Int32) then
  pt_do (pt_put σ16 0 2 (σ16 0 2)) fun σ22 =>
  pt_do (pt_put σ22 0 3 a2) fun σ24 =>
  pt_do (pt_put σ24 0 4 (σ24 0 4)) fun σ26 =>
  pt_do (pt_put σ26 0 5 (σ26 0 5)) fun σ28 =>
  pt_do (pt_put σ28 0 9 (0 : Int32)) fun σ29 =>
  some ((σ16 0 3), σ29)
  else
  some ((-3 : Int32), σ16)
  else
  if a1 = (2 : Int32) then
  pt_b2 (f_X10_in σ a2 (32 : Int32) (200 : Int32)) fun r31 σ31 =>
  if r31 = (0 : Int32) then
  some ((-2 : Int32), σ31)
  else
  if (σ31 0 14) = (0 : Int32) then
  pt_do (pt_put σ31 0 2 (σ31 0 2)) fun σ38 =>
  pt_do (pt_put σ38 0 3 (σ38 0 3)) fun σ40 =>
  pt_do (pt_put σ40 0 4 a2) fun σ42 =>
  pt_do (pt_put σ42 0 5 (σ42 0 5)) fun σ44 =>
  pt_do (pt_put σ44 0 9 (0 : Int32)) fun σ45 =>
  some ((σ31 0 4), σ45)
  else
  some ((-3 : Int32), σ31)
  else
  if a1 = (3 : Int32) then
  pt_b2 (f_X10_in σ a2 (1 : Int32) (8 : Int32)) fun r47 σ47 =>
  if r47 = (0 : Int32) then
  some ((-2 : Int32), σ47)
  else
  if (σ47 0 14) = (0 : Int32) then
  pt_do (pt_put σ47 0 2 (σ47 0 2)) fun σ56 =>
  pt_do (pt_put σ56 0 3 (σ56 0 3)) fun σ58 =>
  pt_do (pt_put σ58 0 4 (σ58 0 4)) fun σ60 =>
  pt_do (pt_put σ60 0 5 a2) fun σ62 =>
  pt_do (pt_put σ62 0 9 (0 : Int32)) fun σ63 =>
  some ((σ47 0 5), σ63)
  else
  some ((-3 : Int32), σ47)
  else
  some ((-2 : Int32), σ)
set_option maxHeartbeats 4000000 in
set_option maxRecDepth 100000 in
theorem m_X10_set (l : Launch) {D : va_G} {A : Nat → Prop} {ca : Nat → ClassId} {ad : Nat → Nat} {z : Nat × Nat} (hDa : ∀ σ, va_D A (wR ca ad σ)) {σ σ' : pt_St} {r : Int32} {a1 : Int32} {a2 : Int32} (h : f_X10_set σ a1 a2 = some (r, σ')) : Met l yX10_set wsX10_set { frames := 1, cells := 0, slots := 0, locals := 22 } (va_Pc [.ref (ad 0), .int a1, .int a2] (pt_Pre D (tysR ca) z A (wR ca ad σ))) (pt_Q (some (.int r)) D (wR ca ad σ') A) 0 0 A := by
  refine Met.ofW (cc := cX10_set) (maxL := 5) (ret := (some .int)) (by decide) rfl ?_
  intro p e s m args below meth c s₁ B hml hv
  obtain ⟨rfl, hP, hK, hZ⟩ := hv
  have S : CallFix p m c cX10_set 5 s ([.ref (ad 0), .int a1, .int a2] : List Value).toArray wsX10_set RX10 := ⟨B.exec, B.bytes, hml, findClass_of_methodNamed B.named, atoms_spec (ws := wsX10_set) B.pre⟩
  have hx := S.1
  have hb := S.2.1
  have hr := B.returns
  have hlk := B.notSynchronized
  clear B
  have hiX10 : ∀ w ∈ wsX100, w ∈ wsX10_set := fun w h => List.mem_cons_of_mem _ (List.mem_append_right _ h)
  have hf82 : (Cond.fieldLink RX10 82 "PackThreadsModel" "isBegun" "Z").before _ s = true := S.2.2.2.2 _ (List.mem_of_getElem? (i := 1) rfl)
  have hf13 : (Cond.fieldLink RX10 13 "PackThreadsModel" "blockSize" "I").before _ s = true := S.2.2.2.2 _ (List.mem_of_getElem? (i := 2) rfl)
  have hf17 : (Cond.fieldLink RX10 17 "PackThreadsModel" "window" "I").before _ s = true := S.2.2.2.2 _ (List.mem_of_getElem? (i := 3) rfl)
  have hf20 : (Cond.fieldLink RX10 20 "PackThreadsModel" "cells" "I").before _ s = true := S.2.2.2.2 _ (List.mem_of_getElem? (i := 4) rfl)
  have hf23 : (Cond.fieldLink RX10 23 "PackThreadsModel" "most" "I").before _ s = true := S.2.2.2.2 _ (List.mem_of_getElem? (i := 5) rfl)
  have hf86 : (Cond.fieldLink RX10 86 "PackThreadsModel" "isPacked" "Z").before _ s = true := S.2.2.2.2 _ (List.mem_of_getElem? (i := 6) rfl)
  have hS : va_S A s.heap s.heap [] := va_S.rf
  have hl := lv_entry ([.ref (ad 0), .int a1, .int a2]) (n := 5) (Nat.le_of_ble_eq_true rfl)
  rw [lg_entry_eq]
  generalize (lg_sl ([.ref (ad 0), .int a1, .int a2]) ++ List.replicate (5 - (lg_sl ([.ref (ad 0), .int a1, .int a2])).length) Slot.unset).toArray = ls at hl ⊢
  have hl : lv_has ls 5 [(0, .ref (ad 0)), (1, .int a1), (2, .int a2)] := hl
  unfold f_X10_set at h
  refine lv_iload_n hx hb dX10_set_0 rfl (lv_at hl 1 rfl) ?_
  refine lv_if_ne (tgt := 14) hx hb dX10_set_1 (by decide) (fun c1 => ?_) (fun c1 => ?_)
  · replace h := pt_iN c1 h
    refine lv_iload_n hx hb dX10_set_14 rfl (lv_at hl 1 rfl) ?_
    refine lv_iconst (v := 1) hx hb dX10_set_15 (by decide) ?_
    refine lv_icmp_ne (tgt := 29) hx hb dX10_set_16 (by decide) (fun c15 => ?_) (fun c15 => ?_)
    · replace h := pt_iN c15 h
      refine lv_iload_n hx hb dX10_set_29 rfl (lv_at hl 1 rfl) ?_
      refine lv_iconst (v := 2) hx hb dX10_set_30 (by decide) ?_
      refine lv_icmp_ne (tgt := 46) hx hb dX10_set_31 (by decide) (fun c30 => ?_) (fun c30 => ?_)
      · replace h := pt_iN c30 h
        refine lv_iload_n hx hb dX10_set_46 rfl (lv_at hl 1 rfl) ?_
        refine lv_iconst (v := 3) hx hb dX10_set_47 (by decide) ?_
        refine lv_icmp_ne (tgt := 65) hx hb dX10_set_48 (by decide) (fun c46 => ?_) (fun c46 => ?_)
        · replace h := pt_iN c46 h
          refine lv_iconst (v := 0) hx hb dX10_set_65 (by decide) ?_
          refine lv_istore_n (lv' := [(3, .int (0 : Int32)), (0, .ref (ad 0)), (1, .int a1), (2, .int a2)]) hx hb dX10_set_66 rfl hl (by decide) rfl (fun ls hl => ?_)
          refine lv_iload_n hx hb dX10_set_67 rfl (lv_at hl 0 rfl) ?_
          refine lv_if_ne (tgt := 74) hx hb dX10_set_68 (by decide) (fun c64 => ?_) (fun c64 => ?_)
          · exact absurd (by decide) c64
          · refine lv_bipush (v := -2) hx hb dX10_set_71 (by decide) ?_
            exact pt_iret S hr hlk hP hS (pt_pr h).1 (congrArg (wR ca ad) (pt_pr h).2) dX10_set_73
        · replace h := pt_ip c46 h
          refine lv_iload_n hx hb dX10_set_51 rfl (lv_at hl 2 rfl) ?_
          refine lv_iconst (v := 1) hx hb dX10_set_52 (by decide) ?_
          refine lv_bipush (v := 8) hx hb dX10_set_53 (by decide) ?_
          replace h := pt_b2s h; obtain ⟨r47, σ47, e47, h⟩ := h
          refine pt_cSi (As := [.int a2, .int (1 : Int32), .int (8 : Int32)]) (rest := []) S (m_X10_in l hDa e47) (cwS 3 S.2.2.2.2 gX10_set_X10_in rfl rfl rfl (by decide +kernel) ⟨Nat.le_of_ble_eq_true rfl, Nat.le_of_ble_eq_true rfl⟩) hK hP hS hZ rfl hl.1 rfl (Nat.le_of_ble_eq_true rfl) dX10_set_55 ⟨Nat.zero_le _, Nat.zero_le _⟩ (fun H locs hP hS => ?_)
          refine lv_if_eq (tgt := 65) hx hb dX10_set_58 (by decide) (fun c48 => ?_) (fun c48 => ?_)
          · replace h := pt_ip c48 h
            refine lv_iconst (v := 0) hx hb dX10_set_65 (by decide) ?_
            refine lv_istore_n (lv' := [(3, .int (0 : Int32)), (0, .ref (ad 0)), (1, .int a1), (2, .int a2)]) hx hb dX10_set_66 rfl hl (by decide) rfl (fun ls hl => ?_)
            refine lv_iload_n hx hb dX10_set_67 rfl (lv_at hl 0 rfl) ?_
            refine lv_if_ne (tgt := 74) hx hb dX10_set_68 (by decide) (fun c49 => ?_) (fun c49 => ?_)
            · exact absurd (by decide) c49
            · refine lv_bipush (v := -2) hx hb dX10_set_71 (by decide) ?_
              exact pt_iret S hr hlk hP hS (pt_pr h).1 (congrArg (wR ca ad) (pt_pr h).2) dX10_set_73
          · replace h := pt_iN c48 h
            refine lv_iconst (v := 1) hx hb dX10_set_61 (by decide) ?_
            refine lv_goto (tgt := 66) hx hb dX10_set_62 (by decide) ?_
            refine lv_istore_n (lv' := [(3, .int (1 : Int32)), (0, .ref (ad 0)), (1, .int a1), (2, .int a2)]) hx hb dX10_set_66 rfl hl (by decide) rfl (fun ls hl => ?_)
            refine lv_iload_n hx hb dX10_set_67 rfl (lv_at hl 0 rfl) ?_
            refine lv_if_ne (tgt := 74) hx hb dX10_set_68 (by decide) (fun c50 => ?_) (fun c50 => ?_)
            · refine lv_aload_n hx hb dX10_set_74 rfl (lv_at hl 1 rfl) ?_
              refine gf_X10_14 S hiX10 hK hP hf82 dX10_set_75 ?_
              refine lv_if_eq (tgt := 84) hx hb dX10_set_78 (by decide) (fun c51 => ?_) (fun c51 => ?_)
              · replace h := pt_ip c51 h
                refine lv_iload_n hx hb dX10_set_84 rfl (lv_at hl 2 rfl) ?_
                refine lv_if_ne (tgt := 95) hx hb dX10_set_85 (by decide) (fun c52 => ?_) (fun c52 => ?_)
                · refine lv_iload_n hx hb dX10_set_95 rfl (lv_at hl 2 rfl) ?_
                  refine lv_iconst (v := 1) hx hb dX10_set_96 (by decide) ?_
                  refine lv_icmp_ne (tgt := 107) hx hb dX10_set_97 (by decide) (fun c53 => ?_) (fun c53 => ?_)
                  · refine lv_iload_n hx hb dX10_set_107 rfl (lv_at hl 2 rfl) ?_
                    refine lv_iconst (v := 2) hx hb dX10_set_108 (by decide) ?_
                    refine lv_icmp_ne (tgt := 119) hx hb dX10_set_109 (by decide) (fun c54 => ?_) (fun c54 => ?_)
                    · refine lv_aload_n hx hb dX10_set_119 rfl (lv_at hl 1 rfl) ?_
                      refine gf_X10_5 S hiX10 hK hP hf23 dX10_set_120 ?_
                      refine lv_istore (lv' := [(4, .int (σ47 0 5)), (3, .int (1 : Int32)), (0, .ref (ad 0)), (1, .int a1), (2, .int a2)]) hx hb dX10_set_123 hl (by decide) rfl (fun ls hl => ?_)
                      refine lv_aload_n hx hb dX10_set_125 rfl (lv_at hl 2 rfl) ?_
                      refine lv_iload_n hx hb dX10_set_126 rfl (lv_at hl 3 rfl) ?_
                      refine lv_if_ne (tgt := 134) hx hb dX10_set_127 (by decide) (fun c55 => ?_) (fun c55 => ?_)
                      · refine lv_aload_n hx hb dX10_set_134 rfl (lv_at hl 2 rfl) ?_
                        refine gf_X10_2 S hiX10 hK hP hf13 dX10_set_135 ?_
                        replace h := pt_dos h; obtain ⟨σ56, e56, h⟩ := h
                        refine pf_X10_2 S hiX10 hK hP hDa hS hf13 e56 dX10_set_138 (fun H locs hP hS => ?_)
                        refine lv_aload_n hx hb dX10_set_141 rfl (lv_at hl 2 rfl) ?_
                        refine lv_iload_n hx hb dX10_set_142 rfl (lv_at hl 3 rfl) ?_
                        refine lv_iconst (v := 1) hx hb dX10_set_143 (by decide) ?_
                        refine lv_icmp_ne (tgt := 151) hx hb dX10_set_144 (by decide) (fun c57 => ?_) (fun c57 => ?_)
                        · refine lv_aload_n hx hb dX10_set_151 rfl (lv_at hl 2 rfl) ?_
                          refine gf_X10_3 S hiX10 hK hP hf17 dX10_set_152 ?_
                          replace h := pt_dos h; obtain ⟨σ58, e58, h⟩ := h
                          refine pf_X10_3 S hiX10 hK hP hDa hS hf17 e58 dX10_set_155 (fun H locs hP hS => ?_)
                          refine lv_aload_n hx hb dX10_set_158 rfl (lv_at hl 2 rfl) ?_
                          refine lv_iload_n hx hb dX10_set_159 rfl (lv_at hl 3 rfl) ?_
                          refine lv_iconst (v := 2) hx hb dX10_set_160 (by decide) ?_
                          refine lv_icmp_ne (tgt := 168) hx hb dX10_set_161 (by decide) (fun c59 => ?_) (fun c59 => ?_)
                          · refine lv_aload_n hx hb dX10_set_168 rfl (lv_at hl 2 rfl) ?_
                            refine gf_X10_4 S hiX10 hK hP hf20 dX10_set_169 ?_
                            replace h := pt_dos h; obtain ⟨σ60, e60, h⟩ := h
                            refine pf_X10_4 S hiX10 hK hP hDa hS hf20 e60 dX10_set_172 (fun H locs hP hS => ?_)
                            refine lv_aload_n hx hb dX10_set_175 rfl (lv_at hl 2 rfl) ?_
                            refine lv_iload_n hx hb dX10_set_176 rfl (lv_at hl 3 rfl) ?_
                            refine lv_iconst (v := 3) hx hb dX10_set_177 (by decide) ?_
                            refine lv_icmp_ne (tgt := 185) hx hb dX10_set_178 (by decide) (fun c61 => ?_) (fun c61 => ?_)
                            · exact absurd c46 c61
                            · refine lv_iload_n hx hb dX10_set_181 rfl (lv_at hl 4 rfl) ?_
                              refine lv_goto (tgt := 189) hx hb dX10_set_182 (by decide) ?_
                              replace h := pt_dos h; obtain ⟨σ62, e62, h⟩ := h
                              refine pf_X10_5 S hiX10 hK hP hDa hS hf23 e62 dX10_set_189 (fun H locs hP hS => ?_)
                              refine lv_aload_n hx hb dX10_set_192 rfl (lv_at hl 2 rfl) ?_
                              refine lv_iconst (v := 0) hx hb dX10_set_193 (by decide) ?_
                              replace h := pt_dos h; obtain ⟨σ63, e63, h⟩ := h
                              refine pf_X10_9 S hiX10 hK hP hDa hS hf86 (Or.inl rfl) e63 dX10_set_194 (fun H locs hP hS => ?_)
                              refine lv_iload hx hb dX10_set_197 (lv_at hl 0 rfl) ?_
                              exact pt_iret S hr hlk hP hS (pt_pr h).1 (congrArg (wR ca ad) (pt_pr h).2) dX10_set_199
                          · exact absurd c59 c54
                        · exact absurd c57 c53
                      · exact absurd c55 c52
                    · exact absurd c54 c30
                  · exact absurd c53 c15
                · exact absurd c52 c1
              · replace h := pt_iN c51 h
                refine lv_bipush (v := -3) hx hb dX10_set_81 (by decide) ?_
                exact pt_iret S hr hlk hP hS (pt_pr h).1 (congrArg (wR ca ad) (pt_pr h).2) dX10_set_83
            · exact absurd c50 (by decide)
      · replace h := pt_ip c30 h
        refine lv_iload_n hx hb dX10_set_34 rfl (lv_at hl 2 rfl) ?_
        refine lv_bipush (v := 32) hx hb dX10_set_35 (by decide) ?_
        refine lv_sipush (v := 200) hx hb dX10_set_37 (by decide) ?_
        replace h := pt_b2s h; obtain ⟨r31, σ31, e31, h⟩ := h
        refine pt_cSi (As := [.int a2, .int (32 : Int32), .int (200 : Int32)]) (rest := []) S (m_X10_in l hDa e31) (cwS 3 S.2.2.2.2 gX10_set_X10_in rfl rfl rfl (by decide +kernel) ⟨Nat.le_of_ble_eq_true rfl, Nat.le_of_ble_eq_true rfl⟩) hK hP hS hZ rfl hl.1 rfl (Nat.le_of_ble_eq_true rfl) dX10_set_40 ⟨Nat.zero_le _, Nat.zero_le _⟩ (fun H locs hP hS => ?_)
        refine lv_goto (tgt := 66) hx hb dX10_set_43 (by decide) ?_
        refine lv_istore_n (lv' := [(3, .int r31), (0, .ref (ad 0)), (1, .int a1), (2, .int a2)]) hx hb dX10_set_66 rfl hl (by decide) rfl (fun ls hl => ?_)
        refine lv_iload_n hx hb dX10_set_67 rfl (lv_at hl 0 rfl) ?_
        refine lv_if_ne (tgt := 74) hx hb dX10_set_68 (by decide) (fun c32 => ?_) (fun c32 => ?_)
        · replace h := pt_iN c32 h
          refine lv_aload_n hx hb dX10_set_74 rfl (lv_at hl 1 rfl) ?_
          refine gf_X10_14 S hiX10 hK hP hf82 dX10_set_75 ?_
          refine lv_if_eq (tgt := 84) hx hb dX10_set_78 (by decide) (fun c33 => ?_) (fun c33 => ?_)
          · replace h := pt_ip c33 h
            refine lv_iload_n hx hb dX10_set_84 rfl (lv_at hl 2 rfl) ?_
            refine lv_if_ne (tgt := 95) hx hb dX10_set_85 (by decide) (fun c34 => ?_) (fun c34 => ?_)
            · refine lv_iload_n hx hb dX10_set_95 rfl (lv_at hl 2 rfl) ?_
              refine lv_iconst (v := 1) hx hb dX10_set_96 (by decide) ?_
              refine lv_icmp_ne (tgt := 107) hx hb dX10_set_97 (by decide) (fun c35 => ?_) (fun c35 => ?_)
              · refine lv_iload_n hx hb dX10_set_107 rfl (lv_at hl 2 rfl) ?_
                refine lv_iconst (v := 2) hx hb dX10_set_108 (by decide) ?_
                refine lv_icmp_ne (tgt := 119) hx hb dX10_set_109 (by decide) (fun c36 => ?_) (fun c36 => ?_)
                · exact absurd c30 c36
                · refine lv_aload_n hx hb dX10_set_112 rfl (lv_at hl 1 rfl) ?_
                  refine gf_X10_4 S hiX10 hK hP hf20 dX10_set_113 ?_
                  refine lv_goto (tgt := 123) hx hb dX10_set_116 (by decide) ?_
                  refine lv_istore (lv' := [(4, .int (σ31 0 4)), (3, .int r31), (0, .ref (ad 0)), (1, .int a1), (2, .int a2)]) hx hb dX10_set_123 hl (by decide) rfl (fun ls hl => ?_)
                  refine lv_aload_n hx hb dX10_set_125 rfl (lv_at hl 2 rfl) ?_
                  refine lv_iload_n hx hb dX10_set_126 rfl (lv_at hl 3 rfl) ?_
                  refine lv_if_ne (tgt := 134) hx hb dX10_set_127 (by decide) (fun c37 => ?_) (fun c37 => ?_)
                  · refine lv_aload_n hx hb dX10_set_134 rfl (lv_at hl 2 rfl) ?_
                    refine gf_X10_2 S hiX10 hK hP hf13 dX10_set_135 ?_
                    replace h := pt_dos h; obtain ⟨σ38, e38, h⟩ := h
                    refine pf_X10_2 S hiX10 hK hP hDa hS hf13 e38 dX10_set_138 (fun H locs hP hS => ?_)
                    refine lv_aload_n hx hb dX10_set_141 rfl (lv_at hl 2 rfl) ?_
                    refine lv_iload_n hx hb dX10_set_142 rfl (lv_at hl 3 rfl) ?_
                    refine lv_iconst (v := 1) hx hb dX10_set_143 (by decide) ?_
                    refine lv_icmp_ne (tgt := 151) hx hb dX10_set_144 (by decide) (fun c39 => ?_) (fun c39 => ?_)
                    · refine lv_aload_n hx hb dX10_set_151 rfl (lv_at hl 2 rfl) ?_
                      refine gf_X10_3 S hiX10 hK hP hf17 dX10_set_152 ?_
                      replace h := pt_dos h; obtain ⟨σ40, e40, h⟩ := h
                      refine pf_X10_3 S hiX10 hK hP hDa hS hf17 e40 dX10_set_155 (fun H locs hP hS => ?_)
                      refine lv_aload_n hx hb dX10_set_158 rfl (lv_at hl 2 rfl) ?_
                      refine lv_iload_n hx hb dX10_set_159 rfl (lv_at hl 3 rfl) ?_
                      refine lv_iconst (v := 2) hx hb dX10_set_160 (by decide) ?_
                      refine lv_icmp_ne (tgt := 168) hx hb dX10_set_161 (by decide) (fun c41 => ?_) (fun c41 => ?_)
                      · exact absurd c36 c41
                      · refine lv_iload_n hx hb dX10_set_164 rfl (lv_at hl 4 rfl) ?_
                        refine lv_goto (tgt := 172) hx hb dX10_set_165 (by decide) ?_
                        replace h := pt_dos h; obtain ⟨σ42, e42, h⟩ := h
                        refine pf_X10_4 S hiX10 hK hP hDa hS hf20 e42 dX10_set_172 (fun H locs hP hS => ?_)
                        refine lv_aload_n hx hb dX10_set_175 rfl (lv_at hl 2 rfl) ?_
                        refine lv_iload_n hx hb dX10_set_176 rfl (lv_at hl 3 rfl) ?_
                        refine lv_iconst (v := 3) hx hb dX10_set_177 (by decide) ?_
                        refine lv_icmp_ne (tgt := 185) hx hb dX10_set_178 (by decide) (fun c43 => ?_) (fun c43 => ?_)
                        · refine lv_aload_n hx hb dX10_set_185 rfl (lv_at hl 2 rfl) ?_
                          refine gf_X10_5 S hiX10 hK hP hf23 dX10_set_186 ?_
                          replace h := pt_dos h; obtain ⟨σ44, e44, h⟩ := h
                          refine pf_X10_5 S hiX10 hK hP hDa hS hf23 e44 dX10_set_189 (fun H locs hP hS => ?_)
                          refine lv_aload_n hx hb dX10_set_192 rfl (lv_at hl 2 rfl) ?_
                          refine lv_iconst (v := 0) hx hb dX10_set_193 (by decide) ?_
                          replace h := pt_dos h; obtain ⟨σ45, e45, h⟩ := h
                          refine pf_X10_9 S hiX10 hK hP hDa hS hf86 (Or.inl rfl) e45 dX10_set_194 (fun H locs hP hS => ?_)
                          refine lv_iload hx hb dX10_set_197 (lv_at hl 0 rfl) ?_
                          exact pt_iret S hr hlk hP hS (pt_pr h).1 (congrArg (wR ca ad) (pt_pr h).2) dX10_set_199
                        · exact absurd c43 (fun q => absurd (c41.symm.trans q) (by decide))
                    · exact absurd c39 c35
                  · exact absurd c37 c34
              · exact absurd c35 c15
            · exact absurd c34 c1
          · replace h := pt_iN c33 h
            refine lv_bipush (v := -3) hx hb dX10_set_81 (by decide) ?_
            exact pt_iret S hr hlk hP hS (pt_pr h).1 (congrArg (wR ca ad) (pt_pr h).2) dX10_set_83
        · replace h := pt_ip c32 h
          refine lv_bipush (v := -2) hx hb dX10_set_71 (by decide) ?_
          exact pt_iret S hr hlk hP hS (pt_pr h).1 (congrArg (wR ca ad) (pt_pr h).2) dX10_set_73
    · replace h := pt_ip c15 h
      refine lv_iload_n hx hb dX10_set_19 rfl (lv_at hl 2 rfl) ?_
      refine lv_iconst (v := 0) hx hb dX10_set_20 (by decide) ?_
      refine lv_bipush (v := 64) hx hb dX10_set_21 (by decide) ?_
      replace h := pt_b2s h; obtain ⟨r16, σ16, e16, h⟩ := h
      refine pt_cSi (As := [.int a2, .int (0 : Int32), .int (64 : Int32)]) (rest := []) S (m_X10_in l hDa e16) (cwS 3 S.2.2.2.2 gX10_set_X10_in rfl rfl rfl (by decide +kernel) ⟨Nat.le_of_ble_eq_true rfl, Nat.le_of_ble_eq_true rfl⟩) hK hP hS hZ rfl hl.1 rfl (Nat.le_of_ble_eq_true rfl) dX10_set_23 ⟨Nat.zero_le _, Nat.zero_le _⟩ (fun H locs hP hS => ?_)
      refine lv_goto (tgt := 66) hx hb dX10_set_26 (by decide) ?_
      refine lv_istore_n (lv' := [(3, .int r16), (0, .ref (ad 0)), (1, .int a1), (2, .int a2)]) hx hb dX10_set_66 rfl hl (by decide) rfl (fun ls hl => ?_)
      refine lv_iload_n hx hb dX10_set_67 rfl (lv_at hl 0 rfl) ?_
      refine lv_if_ne (tgt := 74) hx hb dX10_set_68 (by decide) (fun c17 => ?_) (fun c17 => ?_)
      · replace h := pt_iN c17 h
        refine lv_aload_n hx hb dX10_set_74 rfl (lv_at hl 1 rfl) ?_
        refine gf_X10_14 S hiX10 hK hP hf82 dX10_set_75 ?_
        refine lv_if_eq (tgt := 84) hx hb dX10_set_78 (by decide) (fun c18 => ?_) (fun c18 => ?_)
        · replace h := pt_ip c18 h
          refine lv_iload_n hx hb dX10_set_84 rfl (lv_at hl 2 rfl) ?_
          refine lv_if_ne (tgt := 95) hx hb dX10_set_85 (by decide) (fun c19 => ?_) (fun c19 => ?_)
          · refine lv_iload_n hx hb dX10_set_95 rfl (lv_at hl 2 rfl) ?_
            refine lv_iconst (v := 1) hx hb dX10_set_96 (by decide) ?_
            refine lv_icmp_ne (tgt := 107) hx hb dX10_set_97 (by decide) (fun c20 => ?_) (fun c20 => ?_)
            · exact absurd c15 c20
            · refine lv_aload_n hx hb dX10_set_100 rfl (lv_at hl 1 rfl) ?_
              refine gf_X10_3 S hiX10 hK hP hf17 dX10_set_101 ?_
              refine lv_goto (tgt := 123) hx hb dX10_set_104 (by decide) ?_
              refine lv_istore (lv' := [(4, .int (σ16 0 3)), (3, .int r16), (0, .ref (ad 0)), (1, .int a1), (2, .int a2)]) hx hb dX10_set_123 hl (by decide) rfl (fun ls hl => ?_)
              refine lv_aload_n hx hb dX10_set_125 rfl (lv_at hl 2 rfl) ?_
              refine lv_iload_n hx hb dX10_set_126 rfl (lv_at hl 3 rfl) ?_
              refine lv_if_ne (tgt := 134) hx hb dX10_set_127 (by decide) (fun c21 => ?_) (fun c21 => ?_)
              · refine lv_aload_n hx hb dX10_set_134 rfl (lv_at hl 2 rfl) ?_
                refine gf_X10_2 S hiX10 hK hP hf13 dX10_set_135 ?_
                replace h := pt_dos h; obtain ⟨σ22, e22, h⟩ := h
                refine pf_X10_2 S hiX10 hK hP hDa hS hf13 e22 dX10_set_138 (fun H locs hP hS => ?_)
                refine lv_aload_n hx hb dX10_set_141 rfl (lv_at hl 2 rfl) ?_
                refine lv_iload_n hx hb dX10_set_142 rfl (lv_at hl 3 rfl) ?_
                refine lv_iconst (v := 1) hx hb dX10_set_143 (by decide) ?_
                refine lv_icmp_ne (tgt := 151) hx hb dX10_set_144 (by decide) (fun c23 => ?_) (fun c23 => ?_)
                · exact absurd c20 c23
                · refine lv_iload_n hx hb dX10_set_147 rfl (lv_at hl 4 rfl) ?_
                  refine lv_goto (tgt := 155) hx hb dX10_set_148 (by decide) ?_
                  replace h := pt_dos h; obtain ⟨σ24, e24, h⟩ := h
                  refine pf_X10_3 S hiX10 hK hP hDa hS hf17 e24 dX10_set_155 (fun H locs hP hS => ?_)
                  refine lv_aload_n hx hb dX10_set_158 rfl (lv_at hl 2 rfl) ?_
                  refine lv_iload_n hx hb dX10_set_159 rfl (lv_at hl 3 rfl) ?_
                  refine lv_iconst (v := 2) hx hb dX10_set_160 (by decide) ?_
                  refine lv_icmp_ne (tgt := 168) hx hb dX10_set_161 (by decide) (fun c25 => ?_) (fun c25 => ?_)
                  · refine lv_aload_n hx hb dX10_set_168 rfl (lv_at hl 2 rfl) ?_
                    refine gf_X10_4 S hiX10 hK hP hf20 dX10_set_169 ?_
                    replace h := pt_dos h; obtain ⟨σ26, e26, h⟩ := h
                    refine pf_X10_4 S hiX10 hK hP hDa hS hf20 e26 dX10_set_172 (fun H locs hP hS => ?_)
                    refine lv_aload_n hx hb dX10_set_175 rfl (lv_at hl 2 rfl) ?_
                    refine lv_iload_n hx hb dX10_set_176 rfl (lv_at hl 3 rfl) ?_
                    refine lv_iconst (v := 3) hx hb dX10_set_177 (by decide) ?_
                    refine lv_icmp_ne (tgt := 185) hx hb dX10_set_178 (by decide) (fun c27 => ?_) (fun c27 => ?_)
                    · refine lv_aload_n hx hb dX10_set_185 rfl (lv_at hl 2 rfl) ?_
                      refine gf_X10_5 S hiX10 hK hP hf23 dX10_set_186 ?_
                      replace h := pt_dos h; obtain ⟨σ28, e28, h⟩ := h
                      refine pf_X10_5 S hiX10 hK hP hDa hS hf23 e28 dX10_set_189 (fun H locs hP hS => ?_)
                      refine lv_aload_n hx hb dX10_set_192 rfl (lv_at hl 2 rfl) ?_
                      refine lv_iconst (v := 0) hx hb dX10_set_193 (by decide) ?_
                      replace h := pt_dos h; obtain ⟨σ29, e29, h⟩ := h
                      refine pf_X10_9 S hiX10 hK hP hDa hS hf86 (Or.inl rfl) e29 dX10_set_194 (fun H locs hP hS => ?_)
                      refine lv_iload hx hb dX10_set_197 (lv_at hl 0 rfl) ?_
                      exact pt_iret S hr hlk hP hS (pt_pr h).1 (congrArg (wR ca ad) (pt_pr h).2) dX10_set_199
                    · exact absurd c27 (fun q => absurd (c23.symm.trans q) (by decide))
                  · exact absurd c25 (fun q => absurd (c23.symm.trans q) (by decide))
              · exact absurd c21 c19
          · exact absurd c19 c1
        · replace h := pt_iN c18 h
          refine lv_bipush (v := -3) hx hb dX10_set_81 (by decide) ?_
          exact pt_iret S hr hlk hP hS (pt_pr h).1 (congrArg (wR ca ad) (pt_pr h).2) dX10_set_83
      · replace h := pt_ip c17 h
        refine lv_bipush (v := -2) hx hb dX10_set_71 (by decide) ?_
        exact pt_iret S hr hlk hP hS (pt_pr h).1 (congrArg (wR ca ad) (pt_pr h).2) dX10_set_73
  · replace h := pt_ip c1 h
    refine lv_iload_n hx hb dX10_set_4 rfl (lv_at hl 2 rfl) ?_
    refine lv_iconst (v := 4) hx hb dX10_set_5 (by decide) ?_
    refine lv_bipush (v := 32) hx hb dX10_set_6 (by decide) ?_
    replace h := pt_b2s h; obtain ⟨r2, σ2, e2, h⟩ := h
    refine pt_cSi (As := [.int a2, .int (4 : Int32), .int (32 : Int32)]) (rest := []) S (m_X10_in l hDa e2) (cwS 3 S.2.2.2.2 gX10_set_X10_in rfl rfl rfl (by decide +kernel) ⟨Nat.le_of_ble_eq_true rfl, Nat.le_of_ble_eq_true rfl⟩) hK hP hS hZ rfl hl.1 rfl (Nat.le_of_ble_eq_true rfl) dX10_set_8 ⟨Nat.zero_le _, Nat.zero_le _⟩ (fun H locs hP hS => ?_)
    refine lv_goto (tgt := 66) hx hb dX10_set_11 (by decide) ?_
    refine lv_istore_n (lv' := [(3, .int r2), (0, .ref (ad 0)), (1, .int a1), (2, .int a2)]) hx hb dX10_set_66 rfl hl (by decide) rfl (fun ls hl => ?_)
    refine lv_iload_n hx hb dX10_set_67 rfl (lv_at hl 0 rfl) ?_
    refine lv_if_ne (tgt := 74) hx hb dX10_set_68 (by decide) (fun c3 => ?_) (fun c3 => ?_)
    · replace h := pt_iN c3 h
      refine lv_aload_n hx hb dX10_set_74 rfl (lv_at hl 1 rfl) ?_
      refine gf_X10_14 S hiX10 hK hP hf82 dX10_set_75 ?_
      refine lv_if_eq (tgt := 84) hx hb dX10_set_78 (by decide) (fun c4 => ?_) (fun c4 => ?_)
      · replace h := pt_ip c4 h
        refine lv_iload_n hx hb dX10_set_84 rfl (lv_at hl 2 rfl) ?_
        refine lv_if_ne (tgt := 95) hx hb dX10_set_85 (by decide) (fun c5 => ?_) (fun c5 => ?_)
        · exact absurd c1 c5
        · refine lv_aload_n hx hb dX10_set_88 rfl (lv_at hl 1 rfl) ?_
          refine gf_X10_2 S hiX10 hK hP hf13 dX10_set_89 ?_
          refine lv_goto (tgt := 123) hx hb dX10_set_92 (by decide) ?_
          refine lv_istore (lv' := [(4, .int (σ2 0 2)), (3, .int r2), (0, .ref (ad 0)), (1, .int a1), (2, .int a2)]) hx hb dX10_set_123 hl (by decide) rfl (fun ls hl => ?_)
          refine lv_aload_n hx hb dX10_set_125 rfl (lv_at hl 2 rfl) ?_
          refine lv_iload_n hx hb dX10_set_126 rfl (lv_at hl 3 rfl) ?_
          refine lv_if_ne (tgt := 134) hx hb dX10_set_127 (by decide) (fun c6 => ?_) (fun c6 => ?_)
          · exact absurd c5 c6
          · refine lv_iload_n hx hb dX10_set_130 rfl (lv_at hl 4 rfl) ?_
            refine lv_goto (tgt := 138) hx hb dX10_set_131 (by decide) ?_
            replace h := pt_dos h; obtain ⟨σ7, e7, h⟩ := h
            refine pf_X10_2 S hiX10 hK hP hDa hS hf13 e7 dX10_set_138 (fun H locs hP hS => ?_)
            refine lv_aload_n hx hb dX10_set_141 rfl (lv_at hl 2 rfl) ?_
            refine lv_iload_n hx hb dX10_set_142 rfl (lv_at hl 3 rfl) ?_
            refine lv_iconst (v := 1) hx hb dX10_set_143 (by decide) ?_
            refine lv_icmp_ne (tgt := 151) hx hb dX10_set_144 (by decide) (fun c8 => ?_) (fun c8 => ?_)
            · refine lv_aload_n hx hb dX10_set_151 rfl (lv_at hl 2 rfl) ?_
              refine gf_X10_3 S hiX10 hK hP hf17 dX10_set_152 ?_
              replace h := pt_dos h; obtain ⟨σ9, e9, h⟩ := h
              refine pf_X10_3 S hiX10 hK hP hDa hS hf17 e9 dX10_set_155 (fun H locs hP hS => ?_)
              refine lv_aload_n hx hb dX10_set_158 rfl (lv_at hl 2 rfl) ?_
              refine lv_iload_n hx hb dX10_set_159 rfl (lv_at hl 3 rfl) ?_
              refine lv_iconst (v := 2) hx hb dX10_set_160 (by decide) ?_
              refine lv_icmp_ne (tgt := 168) hx hb dX10_set_161 (by decide) (fun c10 => ?_) (fun c10 => ?_)
              · refine lv_aload_n hx hb dX10_set_168 rfl (lv_at hl 2 rfl) ?_
                refine gf_X10_4 S hiX10 hK hP hf20 dX10_set_169 ?_
                replace h := pt_dos h; obtain ⟨σ11, e11, h⟩ := h
                refine pf_X10_4 S hiX10 hK hP hDa hS hf20 e11 dX10_set_172 (fun H locs hP hS => ?_)
                refine lv_aload_n hx hb dX10_set_175 rfl (lv_at hl 2 rfl) ?_
                refine lv_iload_n hx hb dX10_set_176 rfl (lv_at hl 3 rfl) ?_
                refine lv_iconst (v := 3) hx hb dX10_set_177 (by decide) ?_
                refine lv_icmp_ne (tgt := 185) hx hb dX10_set_178 (by decide) (fun c12 => ?_) (fun c12 => ?_)
                · refine lv_aload_n hx hb dX10_set_185 rfl (lv_at hl 2 rfl) ?_
                  refine gf_X10_5 S hiX10 hK hP hf23 dX10_set_186 ?_
                  replace h := pt_dos h; obtain ⟨σ13, e13, h⟩ := h
                  refine pf_X10_5 S hiX10 hK hP hDa hS hf23 e13 dX10_set_189 (fun H locs hP hS => ?_)
                  refine lv_aload_n hx hb dX10_set_192 rfl (lv_at hl 2 rfl) ?_
                  refine lv_iconst (v := 0) hx hb dX10_set_193 (by decide) ?_
                  replace h := pt_dos h; obtain ⟨σ14, e14, h⟩ := h
                  refine pf_X10_9 S hiX10 hK hP hDa hS hf86 (Or.inl rfl) e14 dX10_set_194 (fun H locs hP hS => ?_)
                  refine lv_iload hx hb dX10_set_197 (lv_at hl 0 rfl) ?_
                  exact pt_iret S hr hlk hP hS (pt_pr h).1 (congrArg (wR ca ad) (pt_pr h).2) dX10_set_199
                · exact absurd c12 (fun q => absurd (c6.symm.trans q) (by decide))
              · exact absurd c10 (fun q => absurd (c6.symm.trans q) (by decide))
            · exact absurd c8 (fun q => absurd (c6.symm.trans q) (by decide))
      · replace h := pt_iN c4 h
        refine lv_bipush (v := -3) hx hb dX10_set_81 (by decide) ?_
        exact pt_iret S hr hlk hP hS (pt_pr h).1 (congrArg (wR ca ad) (pt_pr h).2) dX10_set_83
    · replace h := pt_ip c3 h
      refine lv_bipush (v := -2) hx hb dX10_set_71 (by decide) ?_
      exact pt_iret S hr hlk hP hS (pt_pr h).1 (congrArg (wR ca ad) (pt_pr h).2) dX10_set_73

def f_X10_plant (σ : pt_St) (a1 : Int32) (a2 : Int32) (a3 : Int32) (a4 : Int32) : Option (Int32 × pt_St) :=
  pt_b2 (f_X10_in σ a1 (0 : Int32) (39 : Int32)) fun r1 σ1 =>
  if r1 = (0 : Int32) then
  some ((-2 : Int32), σ1)
  else
  pt_b2 (f_X10_in σ1 a2 (0 : Int32) (31 : Int32)) fun r3 σ3 =>
  if r3 = (0 : Int32) then
  some ((-2 : Int32), σ3)
  else
  pt_b2 (f_X10_in σ3 a3 (1 : Int32) (6 : Int32)) fun r5 σ5 =>
  if r5 = (0 : Int32) then
  some ((-2 : Int32), σ5)
  else
  if (σ5 0 14) = (0 : Int32) then
  if pt_in a1 40 then
  pt_do (pt_put σ5 2 a1.toNatClampNeg a3) fun σ9 =>
  pt_do (pt_put σ9 3 a1.toNatClampNeg a2) fun σ10 =>
  pt_do (pt_put σ10 4 a1.toNatClampNeg (vp_nar .boolean a4)) fun σ11 =>
  some ((1 : Int32), σ11)
  else none
  else
  some ((-3 : Int32), σ5)
set_option maxHeartbeats 4000000 in
set_option maxRecDepth 100000 in
theorem m_X10_plant (l : Launch) {D : va_G} {A : Nat → Prop} {ca : Nat → ClassId} {ad : Nat → Nat} {z : Nat × Nat} (hDa : ∀ σ, va_D A (wR ca ad σ)) {σ σ' : pt_St} {r : Int32} {a1 : Int32} {a2 : Int32} {a3 : Int32} {a4 : Int32} (h : f_X10_plant σ a1 a2 a3 a4 = some (r, σ')) : Met l yX10_plant wsX10_plant { frames := 1, cells := 0, slots := 0, locals := 22 } (va_Pc [.ref (ad 0), .int a1, .int a2, .int a3, .int a4] (pt_Pre D (tysR ca) z A (wR ca ad σ))) (pt_Q (some (.int r)) D (wR ca ad σ') A) 0 0 A := by
  refine Met.ofW (cc := cX10_plant) (maxL := 5) (ret := (some .int)) (by decide) rfl ?_
  intro p e s m args below meth c s₁ B hml hv
  obtain ⟨rfl, hP, hK, hZ⟩ := hv
  have S : CallFix p m c cX10_plant 5 s ([.ref (ad 0), .int a1, .int a2, .int a3, .int a4] : List Value).toArray wsX10_plant RX10 := ⟨B.exec, B.bytes, hml, findClass_of_methodNamed B.named, atoms_spec (ws := wsX10_plant) B.pre⟩
  have hx := S.1
  have hb := S.2.1
  have hr := B.returns
  have hlk := B.notSynchronized
  clear B
  have hiX10 : ∀ w ∈ wsX100, w ∈ wsX10_plant := fun w h => List.mem_cons_of_mem _ (List.mem_append_right _ h)
  have hf82 : (Cond.fieldLink RX10 82 "PackThreadsModel" "isBegun" "Z").before _ s = true := S.2.2.2.2 _ (List.mem_of_getElem? (i := 1) rfl)
  have hf26 : (Cond.fieldLink RX10 26 "PackThreadsModel" "plantKind" "[I").before _ s = true := S.2.2.2.2 _ (List.mem_of_getElem? (i := 2) rfl)
  have hf29 : (Cond.fieldLink RX10 29 "PackThreadsModel" "plantStep" "[I").before _ s = true := S.2.2.2.2 _ (List.mem_of_getElem? (i := 3) rfl)
  have hf32 : (Cond.fieldLink RX10 32 "PackThreadsModel" "plantTwice" "[Z").before _ s = true := S.2.2.2.2 _ (List.mem_of_getElem? (i := 4) rfl)
  have hS : va_S A s.heap s.heap [] := va_S.rf
  have hl := lv_entry ([.ref (ad 0), .int a1, .int a2, .int a3, .int a4]) (n := 5) (Nat.le_of_ble_eq_true rfl)
  rw [lg_entry_eq]
  generalize (lg_sl ([.ref (ad 0), .int a1, .int a2, .int a3, .int a4]) ++ List.replicate (5 - (lg_sl ([.ref (ad 0), .int a1, .int a2, .int a3, .int a4])).length) Slot.unset).toArray = ls at hl ⊢
  have hl : lv_has ls 5 [(0, .ref (ad 0)), (1, .int a1), (2, .int a2), (3, .int a3), (4, .int a4)] := hl
  unfold f_X10_plant at h
  refine lv_iload_n hx hb dX10_plant_0 rfl (lv_at hl 1 rfl) ?_
  refine lv_iconst (v := 0) hx hb dX10_plant_1 (by decide) ?_
  refine lv_bipush (v := 39) hx hb dX10_plant_2 (by decide) ?_
  replace h := pt_b2s h; obtain ⟨r1, σ1, e1, h⟩ := h
  refine pt_cSi (As := [.int a1, .int (0 : Int32), .int (39 : Int32)]) (rest := []) S (m_X10_in l hDa e1) (cwS 3 S.2.2.2.2 gX10_plant_X10_in rfl rfl rfl (by decide +kernel) ⟨Nat.le_of_ble_eq_true rfl, Nat.le_of_ble_eq_true rfl⟩) hK hP hS hZ rfl hl.1 rfl (Nat.le_of_ble_eq_true rfl) dX10_plant_4 ⟨Nat.zero_le _, Nat.zero_le _⟩ (fun H locs hP hS => ?_)
  refine lv_if_eq (tgt := 30) hx hb dX10_plant_7 (by decide) (fun c2 => ?_) (fun c2 => ?_)
  · replace h := pt_ip c2 h
    refine lv_bipush (v := -2) hx hb dX10_plant_30 (by decide) ?_
    exact pt_iret S hr hlk hP hS (pt_pr h).1 (congrArg (wR ca ad) (pt_pr h).2) dX10_plant_32
  · replace h := pt_iN c2 h
    refine lv_iload_n hx hb dX10_plant_10 rfl (lv_at hl 2 rfl) ?_
    refine lv_iconst (v := 0) hx hb dX10_plant_11 (by decide) ?_
    refine lv_bipush (v := 31) hx hb dX10_plant_12 (by decide) ?_
    replace h := pt_b2s h; obtain ⟨r3, σ3, e3, h⟩ := h
    refine pt_cSi (As := [.int a2, .int (0 : Int32), .int (31 : Int32)]) (rest := []) S (m_X10_in l hDa e3) (cwS 3 S.2.2.2.2 gX10_plant_X10_in rfl rfl rfl (by decide +kernel) ⟨Nat.le_of_ble_eq_true rfl, Nat.le_of_ble_eq_true rfl⟩) hK hP hS hZ rfl hl.1 rfl (Nat.le_of_ble_eq_true rfl) dX10_plant_14 ⟨Nat.zero_le _, Nat.zero_le _⟩ (fun H locs hP hS => ?_)
    refine lv_if_eq (tgt := 30) hx hb dX10_plant_17 (by decide) (fun c4 => ?_) (fun c4 => ?_)
    · replace h := pt_ip c4 h
      refine lv_bipush (v := -2) hx hb dX10_plant_30 (by decide) ?_
      exact pt_iret S hr hlk hP hS (pt_pr h).1 (congrArg (wR ca ad) (pt_pr h).2) dX10_plant_32
    · replace h := pt_iN c4 h
      refine lv_iload_n hx hb dX10_plant_20 rfl (lv_at hl 3 rfl) ?_
      refine lv_iconst (v := 1) hx hb dX10_plant_21 (by decide) ?_
      refine lv_bipush (v := 6) hx hb dX10_plant_22 (by decide) ?_
      replace h := pt_b2s h; obtain ⟨r5, σ5, e5, h⟩ := h
      refine pt_cSi (As := [.int a3, .int (1 : Int32), .int (6 : Int32)]) (rest := []) S (m_X10_in l hDa e5) (cwS 3 S.2.2.2.2 gX10_plant_X10_in rfl rfl rfl (by decide +kernel) ⟨Nat.le_of_ble_eq_true rfl, Nat.le_of_ble_eq_true rfl⟩) hK hP hS hZ rfl hl.1 rfl (Nat.le_of_ble_eq_true rfl) dX10_plant_24 ⟨Nat.zero_le _, Nat.zero_le _⟩ (fun H locs hP hS => ?_)
      refine lv_if_ne (tgt := 33) hx hb dX10_plant_27 (by decide) (fun c6 => ?_) (fun c6 => ?_)
      · replace h := pt_iN c6 h
        refine lv_aload_n hx hb dX10_plant_33 rfl (lv_at hl 0 rfl) ?_
        refine gf_X10_14 S hiX10 hK hP hf82 dX10_plant_34 ?_
        refine lv_if_eq (tgt := 43) hx hb dX10_plant_37 (by decide) (fun c7 => ?_) (fun c7 => ?_)
        · replace h := pt_ip c7 h
          refine lv_aload_n hx hb dX10_plant_43 rfl (lv_at hl 0 rfl) ?_
          refine gf_X10_6 S hiX10 hK hP hf26 dX10_plant_44 ?_
          refine lv_iload_n hx hb dX10_plant_47 rfl (lv_at hl 1 rfl) ?_
          refine lv_iload_n hx hb dX10_plant_48 rfl (lv_at hl 3 rfl) ?_
          replace h := pt_gd h; obtain ⟨g8, h⟩ := h
          replace h := pt_dos h; obtain ⟨σ9, e9, h⟩ := h
          refine st_R_2 S hK hP hDa hS g8 e9 dX10_plant_49 (fun H locs hP hS => ?_)
          refine lv_aload_n hx hb dX10_plant_50 rfl (lv_at hl 0 rfl) ?_
          refine gf_X10_7 S hiX10 hK hP hf29 dX10_plant_51 ?_
          refine lv_iload_n hx hb dX10_plant_54 rfl (lv_at hl 1 rfl) ?_
          refine lv_iload_n hx hb dX10_plant_55 rfl (lv_at hl 2 rfl) ?_
          replace h := pt_dos h; obtain ⟨σ10, e10, h⟩ := h
          refine st_R_3 S hK hP hDa hS g8 e10 dX10_plant_56 (fun H locs hP hS => ?_)
          refine lv_aload_n hx hb dX10_plant_57 rfl (lv_at hl 0 rfl) ?_
          refine gf_X10_8 S hiX10 hK hP hf32 dX10_plant_58 ?_
          refine lv_iload_n hx hb dX10_plant_61 rfl (lv_at hl 1 rfl) ?_
          refine lv_iload hx hb dX10_plant_62 (lv_at hl 4 rfl) ?_
          replace h := pt_dos h; obtain ⟨σ11, e11, h⟩ := h
          refine st_R_4 S hK hP hDa hS g8 e11 dX10_plant_64 (fun H locs hP hS => ?_)
          refine lv_iconst (v := 1) hx hb dX10_plant_65 (by decide) ?_
          exact pt_iret S hr hlk hP hS (pt_pr h).1 (congrArg (wR ca ad) (pt_pr h).2) dX10_plant_66
        · replace h := pt_iN c7 h
          refine lv_bipush (v := -3) hx hb dX10_plant_40 (by decide) ?_
          exact pt_iret S hr hlk hP hS (pt_pr h).1 (congrArg (wR ca ad) (pt_pr h).2) dX10_plant_42
      · replace h := pt_ip c6 h
        refine lv_bipush (v := -2) hx hb dX10_plant_30 (by decide) ?_
        exact pt_iret S hr hlk hP hS (pt_pr h).1 (congrArg (wR ca ad) (pt_pr h).2) dX10_plant_32

def f_X10_many (σ : pt_St) : Option (Int32 × pt_St) :=
  if ¬ (σ 0 2) = 0 then
  some (((((σ 0 1) + (σ 0 2)) - (1 : Int32)) / (σ 0 2)), σ)
  else none
set_option maxHeartbeats 4000000 in
set_option maxRecDepth 100000 in
theorem m_X10_many (l : Launch) {D : va_G} {A : Nat → Prop} {ca : Nat → ClassId} {ad : Nat → Nat} {z : Nat × Nat} (hDa : ∀ σ, va_D A (wR ca ad σ)) {σ σ' : pt_St} {r : Int32} (h : f_X10_many σ = some (r, σ')) : Met l yX10_many wsX10_many { frames := 0, cells := 0, slots := 0, locals := 0 } (va_Pc [.ref (ad 0)] (pt_Pre D (tysR ca) z A (wR ca ad σ))) (pt_Q (some (.int r)) D (wR ca ad σ') A) 0 0 A := by
  refine Met.ofW (cc := cX10_many) (maxL := 1) (ret := (some .int)) (by decide) rfl ?_
  intro p e s m args below meth c s₁ B hml hv
  obtain ⟨rfl, hP, hK, hZ⟩ := hv
  have S : CallFix p m c cX10_many 1 s ([.ref (ad 0)] : List Value).toArray wsX10_many RX10 := ⟨B.exec, B.bytes, hml, findClass_of_methodNamed B.named, atoms_spec (ws := wsX10_many) B.pre⟩
  have hx := S.1
  have hb := S.2.1
  have hr := B.returns
  have hlk := B.notSynchronized
  clear B
  have hiX10 : ∀ w ∈ wsX100, w ∈ wsX10_many := fun w h => List.mem_cons_of_mem _ (List.mem_append_right _ h)
  have hf75 : (Cond.fieldLink RX10 75 "PackThreadsModel" "size" "I").before _ s = true := S.2.2.2.2 _ (List.mem_of_getElem? (i := 1) rfl)
  have hf13 : (Cond.fieldLink RX10 13 "PackThreadsModel" "blockSize" "I").before _ s = true := S.2.2.2.2 _ (List.mem_of_getElem? (i := 2) rfl)
  have hS : va_S A s.heap s.heap [] := va_S.rf
  have hl := lv_entry ([.ref (ad 0)]) (n := 1) (Nat.le_of_ble_eq_true rfl)
  rw [lg_entry_eq]
  generalize (lg_sl ([.ref (ad 0)]) ++ List.replicate (1 - (lg_sl ([.ref (ad 0)])).length) Slot.unset).toArray = ls at hl ⊢
  have hl : lv_has ls 1 [(0, .ref (ad 0))] := hl
  unfold f_X10_many at h
  refine lv_aload_n hx hb dX10_many_0 rfl (lv_at hl 0 rfl) ?_
  refine gf_X10_1 S hiX10 hK hP hf75 dX10_many_1 ?_
  refine lv_aload_n hx hb dX10_many_4 rfl (lv_at hl 0 rfl) ?_
  refine gf_X10_2 S hiX10 hK hP hf13 dX10_many_5 ?_
  refine lv_iadd hx hb dX10_many_8 ?_
  refine lv_iconst (v := 1) hx hb dX10_many_9 (by decide) ?_
  refine lv_isub hx hb dX10_many_10 ?_
  refine lv_aload_n hx hb dX10_many_11 rfl (lv_at hl 0 rfl) ?_
  refine gf_X10_2 S hiX10 hK hP hf13 dX10_many_12 ?_
  replace h := pt_gd h; obtain ⟨g1, h⟩ := h
  refine lv_idiv hx hb dX10_many_15 g1 ?_
  exact pt_iret S hr hlk hP hS (pt_pr h).1 (congrArg (wR ca ad) (pt_pr h).2) dX10_many_16

def f_X10_lengthOf (σ : pt_St) (a1 : Int32) : Option (Int32 × pt_St) :=
  if (σ 0 2) ≤ ((σ 0 1) - (a1 * (σ 0 2))) then
  some ((σ 0 2), σ)
  else
  some (((σ 0 1) - (a1 * (σ 0 2))), σ)
set_option maxHeartbeats 4000000 in
set_option maxRecDepth 100000 in
theorem m_X10_lengthOf (l : Launch) {D : va_G} {A : Nat → Prop} {ca : Nat → ClassId} {ad : Nat → Nat} {z : Nat × Nat} (hDa : ∀ σ, va_D A (wR ca ad σ)) {σ σ' : pt_St} {r : Int32} {a1 : Int32} (h : f_X10_lengthOf σ a1 = some (r, σ')) : Met l yX10_lengthOf wsX10_lengthOf { frames := 0, cells := 0, slots := 0, locals := 0 } (va_Pc [.ref (ad 0), .int a1] (pt_Pre D (tysR ca) z A (wR ca ad σ))) (pt_Q (some (.int r)) D (wR ca ad σ') A) 0 0 A := by
  refine Met.ofW (cc := cX10_lengthOf) (maxL := 3) (ret := (some .int)) (by decide) rfl ?_
  intro p e s m args below meth c s₁ B hml hv
  obtain ⟨rfl, hP, hK, hZ⟩ := hv
  have S : CallFix p m c cX10_lengthOf 3 s ([.ref (ad 0), .int a1] : List Value).toArray wsX10_lengthOf RX10 := ⟨B.exec, B.bytes, hml, findClass_of_methodNamed B.named, atoms_spec (ws := wsX10_lengthOf) B.pre⟩
  have hx := S.1
  have hb := S.2.1
  have hr := B.returns
  have hlk := B.notSynchronized
  clear B
  have hiX10 : ∀ w ∈ wsX100, w ∈ wsX10_lengthOf := fun w h => List.mem_cons_of_mem _ (List.mem_append_right _ h)
  have hf75 : (Cond.fieldLink RX10 75 "PackThreadsModel" "size" "I").before _ s = true := S.2.2.2.2 _ (List.mem_of_getElem? (i := 1) rfl)
  have hf13 : (Cond.fieldLink RX10 13 "PackThreadsModel" "blockSize" "I").before _ s = true := S.2.2.2.2 _ (List.mem_of_getElem? (i := 2) rfl)
  have hS : va_S A s.heap s.heap [] := va_S.rf
  have hl := lv_entry ([.ref (ad 0), .int a1]) (n := 3) (Nat.le_of_ble_eq_true rfl)
  rw [lg_entry_eq]
  generalize (lg_sl ([.ref (ad 0), .int a1]) ++ List.replicate (3 - (lg_sl ([.ref (ad 0), .int a1])).length) Slot.unset).toArray = ls at hl ⊢
  have hl : lv_has ls 3 [(0, .ref (ad 0)), (1, .int a1)] := hl
  unfold f_X10_lengthOf at h
  refine lv_aload_n hx hb dX10_lengthOf_0 rfl (lv_at hl 0 rfl) ?_
  refine gf_X10_1 S hiX10 hK hP hf75 dX10_lengthOf_1 ?_
  refine lv_iload_n hx hb dX10_lengthOf_4 rfl (lv_at hl 1 rfl) ?_
  refine lv_aload_n hx hb dX10_lengthOf_5 rfl (lv_at hl 0 rfl) ?_
  refine gf_X10_2 S hiX10 hK hP hf13 dX10_lengthOf_6 ?_
  refine lv_imul hx hb dX10_lengthOf_9 ?_
  refine lv_isub hx hb dX10_lengthOf_10 ?_
  refine lv_istore_n (lv' := [(2, .int ((σ 0 1) - (a1 * (σ 0 2)))), (0, .ref (ad 0)), (1, .int a1)]) hx hb dX10_lengthOf_11 rfl hl (by decide) rfl (fun ls hl => ?_)
  refine lv_iload_n hx hb dX10_lengthOf_12 rfl (lv_at hl 0 rfl) ?_
  refine lv_aload_n hx hb dX10_lengthOf_13 rfl (lv_at hl 1 rfl) ?_
  refine gf_X10_2 S hiX10 hK hP hf13 dX10_lengthOf_14 ?_
  refine lv_icmp_ge (tgt := 24) hx hb dX10_lengthOf_17 (by decide) (fun c1 => ?_) (fun c1 => ?_)
  · replace h := pt_ip c1 h
    refine lv_aload_n hx hb dX10_lengthOf_24 rfl (lv_at hl 1 rfl) ?_
    refine gf_X10_2 S hiX10 hK hP hf13 dX10_lengthOf_25 ?_
    exact pt_iret S hr hlk hP hS (pt_pr h).1 (congrArg (wR ca ad) (pt_pr h).2) dX10_lengthOf_28
  · replace h := pt_iN c1 h
    refine lv_iload_n hx hb dX10_lengthOf_20 rfl (lv_at hl 0 rfl) ?_
    refine lv_goto (tgt := 28) hx hb dX10_lengthOf_21 (by decide) ?_
    exact pt_iret S hr hlk hP hS (pt_pr h).1 (congrArg (wR ca ad) (pt_pr h).2) dX10_lengthOf_28

def lp_X10_alike_3 (k : pt_St → Int32 → Option (Int32 × pt_St)) (a1 : Int32) (a2 : Int32) (a3 : Int32) : Nat → pt_St → Int32 → Option (Int32 × pt_St)
  | 0, _, _ => none
  | n + 1, σ, x4 =>
    if a2 ≤ (a1 + x4) then
    k σ x4
    else
    if pt_in (a1 + x4) 160 then
    if pt_in ((a1 + x4) - a3) 160 then
    if (σ 1 (a1 + x4).toNatClampNeg) = (σ 1 ((a1 + x4) - a3).toNatClampNeg) then
    lp_X10_alike_3 k a1 a2 a3 n σ (x4 + (1 : Int32))
    else
    k σ x4
    else none
    else none
def kx_X10_alike_3 (a1 : Int32) (a2 : Int32) (a3 : Int32) (σ : pt_St) (x4 : Int32) : Option (Int32 × pt_St) :=
  some (x4, σ)
def f_X10_alike (σ : pt_St) (a1 : Int32) (a2 : Int32) (a3 : Int32) : Option (Int32 × pt_St) :=
  lp_X10_alike_3 (kx_X10_alike_3 a1 a2 a3) a1 a2 a3 pt_F σ (0 : Int32)
set_option maxHeartbeats 4000000 in
set_option maxRecDepth 100000 in
theorem m_X10_alike (l : Launch) {D : va_G} {A : Nat → Prop} {ca : Nat → ClassId} {ad : Nat → Nat} {z : Nat × Nat} (hDa : ∀ σ, va_D A (wR ca ad σ)) {σ σ' : pt_St} {r : Int32} {a1 : Int32} {a2 : Int32} {a3 : Int32} (h : f_X10_alike σ a1 a2 a3 = some (r, σ')) : Met l yX10_alike wsX10_alike { frames := 0, cells := 0, slots := 0, locals := 0 } (va_Pc [.ref (ad 0), .int a1, .int a2, .int a3] (pt_Pre D (tysR ca) z A (wR ca ad σ))) (pt_Q (some (.int r)) D (wR ca ad σ') A) 0 0 A := by
  refine Met.ofW (cc := cX10_alike) (maxL := 5) (ret := (some .int)) (by decide) rfl ?_
  intro p e s m args below meth c s₁ B hml hv
  obtain ⟨rfl, hP, hK, hZ⟩ := hv
  have S : CallFix p m c cX10_alike 5 s ([.ref (ad 0), .int a1, .int a2, .int a3] : List Value).toArray wsX10_alike RX10 := ⟨B.exec, B.bytes, hml, findClass_of_methodNamed B.named, atoms_spec (ws := wsX10_alike) B.pre⟩
  have hx := S.1
  have hb := S.2.1
  have hr := B.returns
  have hlk := B.notSynchronized
  clear B
  have hiX10 : ∀ w ∈ wsX100, w ∈ wsX10_alike := fun w h => List.mem_cons_of_mem _ (List.mem_append_right _ h)
  have hf7 : (Cond.fieldLink RX10 7 "PackThreadsModel" "text" "[I").before _ s = true := S.2.2.2.2 _ (List.mem_of_getElem? (i := 1) rfl)
  have hS : va_S A s.heap s.heap [] := va_S.rf
  have hl := lv_entry ([.ref (ad 0), .int a1, .int a2, .int a3]) (n := 5) (Nat.le_of_ble_eq_true rfl)
  rw [lg_entry_eq]
  generalize (lg_sl ([.ref (ad 0), .int a1, .int a2, .int a3]) ++ List.replicate (5 - (lg_sl ([.ref (ad 0), .int a1, .int a2, .int a3])).length) Slot.unset).toArray = ls at hl ⊢
  have hl : lv_has ls 5 [(0, .ref (ad 0)), (1, .int a1), (2, .int a2), (3, .int a3)] := hl
  unfold f_X10_alike at h
  refine lv_iconst (v := 0) hx hb dX10_alike_0 (by decide) ?_
  refine lv_istore (lv' := [(4, .int (0 : Int32)), (0, .ref (ad 0)), (1, .int a1), (2, .int a2), (3, .int a3)]) hx hb dX10_alike_1 hl (by decide) rfl (fun ls hl => ?_)
  have X3 : ∀ (σ : pt_St) (x4 : Int32), kx_X10_alike_3 a1 a2 a3 σ x4 = some (r, σ') → ∀ (H : Heap) (locs : List Loc) (ls : Array Slot), va_P D vwCl (wR ca ad σ) H → va_S A s.heap H locs → lv_has ls 5 [(0, .ref (ad 0)), (1, .int a1), (2, .int a2), (3, .int a3), (4, .int x4)] → W p l e (headSpec wsX10_alike { frames := 0, cells := 0, slots := 0, locals := 0 }).room s m ([.ref (ad 0), .int a1, .int a2, .int a3] : List Value).toArray below meth c H locs 0 0 (MQ below (pt_Q (some (.int r)) D (wR ca ad σ') A) ([.ref (ad 0), .int a1, .int a2, .int a3] : List Value).toArray s 0 0 A) (F0 m 40 ls []) := by
    intro σ x4 h H locs ls hP hS hl
    unfold kx_X10_alike_3 at h
    refine lv_iload hx hb dX10_alike_40 (lv_at hl 4 rfl) ?_
    exact pt_iret S hr hlk hP hS (pt_pr h).1 (congrArg (wR ca ad) (pt_pr h).2) dX10_alike_42
  have L3 : ∀ (n : Nat) (σ : pt_St) (x4 : Int32),  lp_X10_alike_3 (kx_X10_alike_3 a1 a2 a3) a1 a2 a3 n σ x4 = some (r, σ') → ∀ (H : Heap) (locs : List Loc) (ls : Array Slot), va_P D vwCl (wR ca ad σ) H → va_S A s.heap H locs → lv_has ls 5 [(0, .ref (ad 0)), (1, .int a1), (2, .int a2), (3, .int a3), (4, .int x4)] → W p l e (headSpec wsX10_alike { frames := 0, cells := 0, slots := 0, locals := 0 }).room s m ([.ref (ad 0), .int a1, .int a2, .int a3] : List Value).toArray below meth c H locs 0 0 (MQ below (pt_Q (some (.int r)) D (wR ca ad σ') A) ([.ref (ad 0), .int a1, .int a2, .int a3] : List Value).toArray s 0 0 A) (F0 m 3 ls []) := by
    intro n
    induction n with
    | zero => intro σ x4 h; cases h
    | succ n ih0 =>
      intro σ x4 h H locs ls hP hS hl
      rw [lp_X10_alike_3] at h
      refine lv_iload_n hx hb dX10_alike_3 rfl (lv_at hl 1 rfl) ?_
      refine lv_iload hx hb dX10_alike_4 (lv_at hl 4 rfl) ?_
      refine lv_iadd hx hb dX10_alike_6 ?_
      refine lv_iload_n hx hb dX10_alike_7 rfl (lv_at hl 2 rfl) ?_
      refine lv_icmp_ge (tgt := 40) hx hb dX10_alike_8 (by decide) (fun c4001 => ?_) (fun c4001 => ?_)
      · replace h := pt_ip c4001 h
        exact X3 _ _ h _ _ _ hP hS (lv_sub hl [0, 1, 2, 3, 4] rfl)
      · replace h := pt_iN c4001 h
        refine lv_aload_n hx hb dX10_alike_11 rfl (lv_at hl 0 rfl) ?_
        refine gf_X10_0 S hiX10 hK hP hf7 dX10_alike_12 ?_
        refine lv_iload_n hx hb dX10_alike_15 rfl (lv_at hl 1 rfl) ?_
        refine lv_iload hx hb dX10_alike_16 (lv_at hl 4 rfl) ?_
        refine lv_iadd hx hb dX10_alike_18 ?_
        replace h := pt_gd h; obtain ⟨g4002, h⟩ := h
        refine ld_R_1 S hK hP g4002 dX10_alike_19 ?_
        refine lv_aload_n hx hb dX10_alike_20 rfl (lv_at hl 0 rfl) ?_
        refine gf_X10_0 S hiX10 hK hP hf7 dX10_alike_21 ?_
        refine lv_iload_n hx hb dX10_alike_24 rfl (lv_at hl 1 rfl) ?_
        refine lv_iload hx hb dX10_alike_25 (lv_at hl 4 rfl) ?_
        refine lv_iadd hx hb dX10_alike_27 ?_
        refine lv_iload_n hx hb dX10_alike_28 rfl (lv_at hl 3 rfl) ?_
        refine lv_isub hx hb dX10_alike_29 ?_
        replace h := pt_gd h; obtain ⟨g4003, h⟩ := h
        refine ld_R_1 S hK hP g4003 dX10_alike_30 ?_
        refine lv_icmp_ne (tgt := 40) hx hb dX10_alike_31 (by decide) (fun c4004 => ?_) (fun c4004 => ?_)
        · replace h := pt_iN c4004 h
          exact X3 _ _ h _ _ _ hP hS (lv_sub hl [0, 1, 2, 3, 4] rfl)
        · replace h := pt_ip c4004 h
          refine lv_iinc (v := x4 + (1 : Int32)) (lv' := [(4, .int (x4 + (1 : Int32))), (0, .ref (ad 0)), (1, .int a1), (2, .int a2), (3, .int a3)]) hx hb dX10_alike_34 hl (k := 4) rfl rfl (by decide) rfl (fun ls hl => ?_)
          refine lv_goto (tgt := 3) hx hb dX10_alike_37 (by decide) ?_
          exact ih0 _ _ h _ _ _ hP hS (lv_sub hl [1, 2, 3, 4, 0] rfl)
  exact L3 _ _ _ h _ _ _ hP hS (lv_sub hl [1, 2, 3, 4, 0] rfl)

def f_X10_lay (σ : pt_St) (a1 : Int32) : Option pt_St :=
  if pt_in (σ 0 10) 700 then
  pt_do (pt_put σ 5 (σ 0 10).toNatClampNeg a1) fun σ2 =>
  pt_do (pt_put σ2 0 10 ((σ2 0 10) + (1 : Int32))) fun σ3 =>
  some σ3
  else none
set_option maxHeartbeats 4000000 in
set_option maxRecDepth 100000 in
theorem m_X10_lay (l : Launch) {D : va_G} {A : Nat → Prop} {ca : Nat → ClassId} {ad : Nat → Nat} {z : Nat × Nat} (hDa : ∀ σ, va_D A (wR ca ad σ)) {σ σ' : pt_St} {a1 : Int32} (h : f_X10_lay σ a1 = some σ') : Met l yX10_lay wsX10_lay { frames := 0, cells := 0, slots := 0, locals := 0 } (va_Pc [.ref (ad 0), .int a1] (pt_Pre D (tysR ca) z A (wR ca ad σ))) (pt_Q none D (wR ca ad σ') A) 0 0 A := by
  refine Met.ofW (cc := cX10_lay) (maxL := 2) (ret := none) (by decide) rfl ?_
  intro p e s m args below meth c s₁ B hml hv
  obtain ⟨rfl, hP, hK, hZ⟩ := hv
  have S : CallFix p m c cX10_lay 2 s ([.ref (ad 0), .int a1] : List Value).toArray wsX10_lay RX10 := ⟨B.exec, B.bytes, hml, findClass_of_methodNamed B.named, atoms_spec (ws := wsX10_lay) B.pre⟩
  have hx := S.1
  have hb := S.2.1
  have hr := B.returns
  have hlk := B.notSynchronized
  clear B
  have hiX10 : ∀ w ∈ wsX100, w ∈ wsX10_lay := fun w h => List.mem_cons_of_mem _ (List.mem_append_right _ h)
  have hf36 : (Cond.fieldLink RX10 36 "PackThreadsModel" "pack" "[I").before _ s = true := S.2.2.2.2 _ (List.mem_of_getElem? (i := 1) rfl)
  have hf89 : (Cond.fieldLink RX10 89 "PackThreadsModel" "packed" "I").before _ s = true := S.2.2.2.2 _ (List.mem_of_getElem? (i := 2) rfl)
  have hS : va_S A s.heap s.heap [] := va_S.rf
  have hl := lv_entry ([.ref (ad 0), .int a1]) (n := 2) (Nat.le_of_ble_eq_true rfl)
  rw [lg_entry_eq]
  generalize (lg_sl ([.ref (ad 0), .int a1]) ++ List.replicate (2 - (lg_sl ([.ref (ad 0), .int a1])).length) Slot.unset).toArray = ls at hl ⊢
  have hl : lv_has ls 2 [(0, .ref (ad 0)), (1, .int a1)] := hl
  unfold f_X10_lay at h
  refine lv_aload_n hx hb dX10_lay_0 rfl (lv_at hl 0 rfl) ?_
  refine gf_X10_11 S hiX10 hK hP hf36 dX10_lay_1 ?_
  refine lv_aload_n hx hb dX10_lay_4 rfl (lv_at hl 0 rfl) ?_
  refine gf_X10_10 S hiX10 hK hP hf89 dX10_lay_5 ?_
  refine lv_iload_n hx hb dX10_lay_8 rfl (lv_at hl 1 rfl) ?_
  replace h := pt_gd h; obtain ⟨g1, h⟩ := h
  replace h := pt_dos h; obtain ⟨σ2, e2, h⟩ := h
  refine st_R_5 S hK hP hDa hS g1 e2 dX10_lay_9 (fun H locs hP hS => ?_)
  refine lv_aload_n hx hb dX10_lay_10 rfl (lv_at hl 0 rfl) ?_
  refine lv_dup hx hb dX10_lay_11 rfl ?_
  refine gf_X10_10 S hiX10 hK hP hf89 dX10_lay_12 ?_
  refine lv_iconst (v := 1) hx hb dX10_lay_15 (by decide) ?_
  refine lv_iadd hx hb dX10_lay_16 ?_
  replace h := pt_dos h; obtain ⟨σ3, e3, h⟩ := h
  refine pf_X10_10 S hiX10 hK hP hDa hS hf89 e3 dX10_lay_17 (fun H locs hP hS => ?_)
  exact pt_vret S hr hlk hP hS (congrArg (wR ca ad) (pt_so h)) dX10_lay_20

def lp_X10_plainTo_15 (k : pt_St → Int32 → Option pt_St) (a1 : Int32) (a2 : Int32) : Nat → pt_St → Int32 → Option pt_St
  | 0, _, _ => none
  | n + 1, σ, x3 =>
    if a2 ≤ x3 then
    k σ x3
    else
    if pt_in x3 160 then
    pt_b1 (f_X10_lay σ (σ 1 x3.toNatClampNeg)) fun σ16003 =>
    lp_X10_plainTo_15 k a1 a2 n σ16003 (x3 + (1 : Int32))
    else none
def kx_X10_plainTo_15 (a1 : Int32) (a2 : Int32) (σ : pt_St) (x3 : Int32) : Option pt_St :=
  some σ
def f_X10_plainTo (σ : pt_St) (a1 : Int32) (a2 : Int32) : Option pt_St :=
  if a1 = a2 then
  some σ
  else
  pt_b1 (f_X10_lay σ (a2 - a1)) fun σ2 =>
  lp_X10_plainTo_15 (kx_X10_plainTo_15 a1 a2) a1 a2 pt_F σ2 a1
set_option maxHeartbeats 4000000 in
set_option maxRecDepth 100000 in
theorem m_X10_plainTo (l : Launch) {D : va_G} {A : Nat → Prop} {ca : Nat → ClassId} {ad : Nat → Nat} {z : Nat × Nat} (hDa : ∀ σ, va_D A (wR ca ad σ)) {σ σ' : pt_St} {a1 : Int32} {a2 : Int32} (h : f_X10_plainTo σ a1 a2 = some σ') : Met l yX10_plainTo wsX10_plainTo { frames := 1, cells := 0, slots := 0, locals := 21 } (va_Pc [.ref (ad 0), .int a1, .int a2] (pt_Pre D (tysR ca) z A (wR ca ad σ))) (pt_Q none D (wR ca ad σ') A) 0 0 A := by
  refine Met.ofW (cc := cX10_plainTo) (maxL := 4) (ret := none) (by decide) rfl ?_
  intro p e s m args below meth c s₁ B hml hv
  obtain ⟨rfl, hP, hK, hZ⟩ := hv
  have S : CallFix p m c cX10_plainTo 4 s ([.ref (ad 0), .int a1, .int a2] : List Value).toArray wsX10_plainTo RX10 := ⟨B.exec, B.bytes, hml, findClass_of_methodNamed B.named, atoms_spec (ws := wsX10_plainTo) B.pre⟩
  have hx := S.1
  have hb := S.2.1
  have hr := B.returns
  have hlk := B.notSynchronized
  clear B
  have hiX10 : ∀ w ∈ wsX100, w ∈ wsX10_plainTo := fun w h => List.mem_cons_of_mem _ (List.mem_append_right _ h)
  have hf7 : (Cond.fieldLink RX10 7 "PackThreadsModel" "text" "[I").before _ s = true := S.2.2.2.2 _ (List.mem_of_getElem? (i := 1) rfl)
  have hS : va_S A s.heap s.heap [] := va_S.rf
  have hl := lv_entry ([.ref (ad 0), .int a1, .int a2]) (n := 4) (Nat.le_of_ble_eq_true rfl)
  rw [lg_entry_eq]
  generalize (lg_sl ([.ref (ad 0), .int a1, .int a2]) ++ List.replicate (4 - (lg_sl ([.ref (ad 0), .int a1, .int a2])).length) Slot.unset).toArray = ls at hl ⊢
  have hl : lv_has ls 4 [(0, .ref (ad 0)), (1, .int a1), (2, .int a2)] := hl
  unfold f_X10_plainTo at h
  refine lv_iload_n hx hb dX10_plainTo_0 rfl (lv_at hl 1 rfl) ?_
  refine lv_iload_n hx hb dX10_plainTo_1 rfl (lv_at hl 2 rfl) ?_
  refine lv_icmp_ne (tgt := 6) hx hb dX10_plainTo_2 (by decide) (fun c1 => ?_) (fun c1 => ?_)
  · replace h := pt_iN c1 h
    refine lv_aload_n hx hb dX10_plainTo_6 rfl (lv_at hl 0 rfl) ?_
    refine lv_iload_n hx hb dX10_plainTo_7 rfl (lv_at hl 2 rfl) ?_
    refine lv_iload_n hx hb dX10_plainTo_8 rfl (lv_at hl 1 rfl) ?_
    refine lv_isub hx hb dX10_plainTo_9 ?_
    replace h := pt_b1s h; obtain ⟨σ2, e2, h⟩ := h
    refine pt_cVv (As := [.int (a2 - a1)]) (rest := []) S (m_X10_lay l hDa e2) (cwV 1 S.2.2.2.2 gX10_plainTo_X10_lay rfl rfl rfl (by decide +kernel) ⟨Nat.le_of_ble_eq_true rfl, Nat.le_of_ble_eq_true rfl⟩) hK hP hS hZ 0 10 rfl rfl rfl hl.1 rfl (Nat.le_of_ble_eq_true rfl) dX10_plainTo_10 ⟨Nat.zero_le _, Nat.zero_le _⟩ (fun H locs hP hS => ?_)
    refine lv_iload_n hx hb dX10_plainTo_13 rfl (lv_at hl 1 rfl) ?_
    refine lv_istore_n (lv' := [(3, .int a1), (0, .ref (ad 0)), (1, .int a1), (2, .int a2)]) hx hb dX10_plainTo_14 rfl hl (by decide) rfl (fun ls hl => ?_)
    have X15 : ∀ (σ : pt_St) (x3 : Int32), kx_X10_plainTo_15 a1 a2 σ x3 = some σ' → ∀ (H : Heap) (locs : List Loc) (ls : Array Slot), va_P D vwCl (wR ca ad σ) H → va_S A s.heap H locs → lv_has ls 4 [(0, .ref (ad 0)), (1, .int a1), (2, .int a2), (3, .int x3)] → W p l e (headSpec wsX10_plainTo { frames := 1, cells := 0, slots := 0, locals := 21 }).room s m ([.ref (ad 0), .int a1, .int a2] : List Value).toArray below meth c H locs 0 0 (MQ below (pt_Q none D (wR ca ad σ') A) ([.ref (ad 0), .int a1, .int a2] : List Value).toArray s 0 0 A) (F0 m 36 ls []) := by
      intro σ x3 h H locs ls hP hS hl
      unfold kx_X10_plainTo_15 at h
      exact pt_vret S hr hlk hP hS (congrArg (wR ca ad) (pt_so h)) dX10_plainTo_36
    have L15 : ∀ (n : Nat) (σ : pt_St) (x3 : Int32),  lp_X10_plainTo_15 (kx_X10_plainTo_15 a1 a2) a1 a2 n σ x3 = some σ' → ∀ (H : Heap) (locs : List Loc) (ls : Array Slot), va_P D vwCl (wR ca ad σ) H → va_S A s.heap H locs → lv_has ls 4 [(0, .ref (ad 0)), (1, .int a1), (2, .int a2), (3, .int x3)] → W p l e (headSpec wsX10_plainTo { frames := 1, cells := 0, slots := 0, locals := 21 }).room s m ([.ref (ad 0), .int a1, .int a2] : List Value).toArray below meth c H locs 0 0 (MQ below (pt_Q none D (wR ca ad σ') A) ([.ref (ad 0), .int a1, .int a2] : List Value).toArray s 0 0 A) (F0 m 15 ls []) := by
      intro n
      induction n with
      | zero => intro σ x3 h; cases h
      | succ n ih0 =>
        intro σ x3 h H locs ls hP hS hl
        rw [lp_X10_plainTo_15] at h
        refine lv_iload_n hx hb dX10_plainTo_15 rfl (lv_at hl 3 rfl) ?_
        refine lv_iload_n hx hb dX10_plainTo_16 rfl (lv_at hl 2 rfl) ?_
        refine lv_icmp_ge (tgt := 36) hx hb dX10_plainTo_17 (by decide) (fun c16001 => ?_) (fun c16001 => ?_)
        · replace h := pt_ip c16001 h
          exact X15 _ _ h _ _ _ hP hS (lv_sub hl [0, 1, 2, 3] rfl)
        · replace h := pt_iN c16001 h
          refine lv_aload_n hx hb dX10_plainTo_20 rfl (lv_at hl 0 rfl) ?_
          refine lv_aload_n hx hb dX10_plainTo_21 rfl (lv_at hl 0 rfl) ?_
          refine gf_X10_0 S hiX10 hK hP hf7 dX10_plainTo_22 ?_
          refine lv_iload_n hx hb dX10_plainTo_25 rfl (lv_at hl 3 rfl) ?_
          replace h := pt_gd h; obtain ⟨g16002, h⟩ := h
          refine ld_R_1 S hK hP g16002 dX10_plainTo_26 ?_
          replace h := pt_b1s h; obtain ⟨σ16003, e16003, h⟩ := h
          refine pt_cVv (As := [.int (σ 1 x3.toNatClampNeg)]) (rest := []) S (m_X10_lay l hDa e16003) (cwV 1 S.2.2.2.2 gX10_plainTo_X10_lay rfl rfl rfl (by decide +kernel) ⟨Nat.le_of_ble_eq_true rfl, Nat.le_of_ble_eq_true rfl⟩) hK hP hS hZ 0 10 rfl rfl rfl hl.1 rfl (Nat.le_of_ble_eq_true rfl) dX10_plainTo_27 ⟨Nat.zero_le _, Nat.zero_le _⟩ (fun H locs hP hS => ?_)
          refine lv_iinc (v := x3 + (1 : Int32)) (lv' := [(3, .int (x3 + (1 : Int32))), (0, .ref (ad 0)), (1, .int a1), (2, .int a2)]) hx hb dX10_plainTo_30 hl (k := 3) rfl rfl (by decide) rfl (fun ls hl => ?_)
          refine lv_goto (tgt := 15) hx hb dX10_plainTo_33 (by decide) ?_
          exact ih0 _ _ h _ _ _ hP hS (lv_sub hl [1, 2, 3, 0] rfl)
    exact L15 _ _ _ h _ _ _ hP hS (lv_sub hl [1, 2, 3, 0] rfl)
  · replace h := pt_ip c1 h
    exact pt_vret S hr hlk hP hS (congrArg (wR ca ad) (pt_so h)) dX10_plainTo_5

def lp_X10_packOne_39 (k1 : pt_St → Int32 → Int32 → Int32 → Option pt_St) (a1 : Int32) (x2 : Int32) (x3 : Int32) (x4 : Int32) : Nat → pt_St → Int32 → Int32 → Int32 → Option pt_St
  | 0, _, _, _, _ => none
  | n1 + 1, σ, x5, x6, x7 =>
    if (σ 0 3) < x7 then
    k1 σ x5 x6 x7
    else
    if x2 < x7 then
    k1 σ x5 x6 x7
    else
    pt_b2 (f_X10_alike σ x2 x3 x7) fun r40003 σ40003 =>
    if r40003 ≤ x5 then
    lp_X10_packOne_39 k1 a1 x2 x3 x4 n1 σ40003 x5 x6 (x7 + (1 : Int32))
    else
    lp_X10_packOne_39 k1 a1 x2 x3 x4 n1 σ40003 r40003 x7 (x7 + (1 : Int32))
def lp_X10_packOne_25 (k : pt_St → Int32 → Int32 → Int32 → Option pt_St) (a1 : Int32) : Nat → pt_St → Int32 → Int32 → Int32 → Option pt_St
  | 0, _, _, _, _ => none
  | n + 1, σ, x2, x3, x4 =>
    if x3 ≤ x2 then
    k σ x2 x3 x4
    else
    lp_X10_packOne_39 (fun τ39 x5 x6 x7 =>
    if pt_in a1 40 then
    pt_do (pt_put τ39 7 a1.toNatClampNeg ((τ39 7 a1.toNatClampNeg) + (1 : Int32))) fun σ40502 =>
    if x5 < (3 : Int32) then
    lp_X10_packOne_25 k a1 n σ40502 (x2 + (1 : Int32)) x3 x4
    else
    pt_b1 (f_X10_plainTo σ40502 x4 x2) fun σ40504 =>
    pt_b1 (f_X10_lay σ40504 ((125 : Int32) + x5)) fun σ40505 =>
    pt_b1 (f_X10_lay σ40505 (x6 - (1 : Int32))) fun σ40506 =>
    lp_X10_packOne_25 k a1 n σ40506 (x2 + x5) x3 (x2 + x5)
    else none) a1 x2 x3 x4 pt_F σ (0 : Int32) (0 : Int32) (1 : Int32)
def kx_X10_packOne_25 (a1 : Int32) (σ : pt_St) (x2 : Int32) (x3 : Int32) (x4 : Int32) : Option pt_St :=
  pt_b1 (f_X10_plainTo σ x4 x3) fun σ26501 =>
  pt_b1 (f_X10_lay σ26501 (0 : Int32)) fun σ26502 =>
  if pt_in a1 40 then
  pt_do (pt_put σ26502 6 a1.toNatClampNeg (σ26502 0 10)) fun σ26504 =>
  some σ26504
  else none
def f_X10_packOne (σ : pt_St) (a1 : Int32) : Option pt_St :=
  pt_b2 (f_X10_lengthOf σ a1) fun r1 σ1 =>
  if pt_in a1 40 then
  pt_do (pt_put σ1 7 a1.toNatClampNeg (0 : Int32)) fun σ3 =>
  lp_X10_packOne_25 (kx_X10_packOne_25 a1) a1 pt_F σ3 (a1 * (σ 0 2)) ((a1 * (σ 0 2)) + r1) (a1 * (σ 0 2))
  else none
set_option maxHeartbeats 4000000 in
set_option maxRecDepth 100000 in
theorem m_X10_packOne (l : Launch) {D : va_G} {A : Nat → Prop} {ca : Nat → ClassId} {ad : Nat → Nat} {z : Nat × Nat} (hDa : ∀ σ, va_D A (wR ca ad σ)) {σ σ' : pt_St} {a1 : Int32} (h : f_X10_packOne σ a1 = some σ') : Met l yX10_packOne wsX10_packOne { frames := 2, cells := 0, slots := 0, locals := 44 } (va_Pc [.ref (ad 0), .int a1] (pt_Pre D (tysR ca) z A (wR ca ad σ))) (pt_Q none D (wR ca ad σ') A) 0 0 A := by
  refine Met.ofW (cc := cX10_packOne) (maxL := 9) (ret := none) (by decide) rfl ?_
  intro p e s m args below meth c s₁ B hml hv
  obtain ⟨rfl, hP, hK, hZ⟩ := hv
  have S : CallFix p m c cX10_packOne 9 s ([.ref (ad 0), .int a1] : List Value).toArray wsX10_packOne RX10 := ⟨B.exec, B.bytes, hml, findClass_of_methodNamed B.named, atoms_spec (ws := wsX10_packOne) B.pre⟩
  have hx := S.1
  have hb := S.2.1
  have hr := B.returns
  have hlk := B.notSynchronized
  clear B
  have hiX10 : ∀ w ∈ wsX100, w ∈ wsX10_packOne := fun w h => List.mem_cons_of_mem _ (List.mem_append_right _ h)
  have hf13 : (Cond.fieldLink RX10 13 "PackThreadsModel" "blockSize" "I").before _ s = true := S.2.2.2.2 _ (List.mem_of_getElem? (i := 1) rfl)
  have hf42 : (Cond.fieldLink RX10 42 "PackThreadsModel" "tokens" "[I").before _ s = true := S.2.2.2.2 _ (List.mem_of_getElem? (i := 2) rfl)
  have hf17 : (Cond.fieldLink RX10 17 "PackThreadsModel" "window" "I").before _ s = true := S.2.2.2.2 _ (List.mem_of_getElem? (i := 3) rfl)
  have hf39 : (Cond.fieldLink RX10 39 "PackThreadsModel" "packEnd" "[I").before _ s = true := S.2.2.2.2 _ (List.mem_of_getElem? (i := 4) rfl)
  have hf89 : (Cond.fieldLink RX10 89 "PackThreadsModel" "packed" "I").before _ s = true := S.2.2.2.2 _ (List.mem_of_getElem? (i := 5) rfl)
  have hS : va_S A s.heap s.heap [] := va_S.rf
  have hl := lv_entry ([.ref (ad 0), .int a1]) (n := 9) (Nat.le_of_ble_eq_true rfl)
  rw [lg_entry_eq]
  generalize (lg_sl ([.ref (ad 0), .int a1]) ++ List.replicate (9 - (lg_sl ([.ref (ad 0), .int a1])).length) Slot.unset).toArray = ls at hl ⊢
  have hl : lv_has ls 9 [(0, .ref (ad 0)), (1, .int a1)] := hl
  unfold f_X10_packOne at h
  refine lv_iload_n hx hb dX10_packOne_0 rfl (lv_at hl 1 rfl) ?_
  refine lv_aload_n hx hb dX10_packOne_1 rfl (lv_at hl 0 rfl) ?_
  refine gf_X10_2 S hiX10 hK hP hf13 dX10_packOne_2 ?_
  refine lv_imul hx hb dX10_packOne_5 ?_
  refine lv_istore_n (lv' := [(2, .int (a1 * (σ 0 2))), (0, .ref (ad 0)), (1, .int a1)]) hx hb dX10_packOne_6 rfl hl (by decide) rfl (fun ls hl => ?_)
  refine lv_iload_n hx hb dX10_packOne_7 rfl (lv_at hl 0 rfl) ?_
  refine lv_aload_n hx hb dX10_packOne_8 rfl (lv_at hl 1 rfl) ?_
  refine lv_iload_n hx hb dX10_packOne_9 rfl (lv_at hl 2 rfl) ?_
  replace h := pt_b2s h; obtain ⟨r1, σ1, e1, h⟩ := h
  refine pt_cVi (As := [.int a1]) (rest := [.int (a1 * (σ 0 2))]) S (m_X10_lengthOf l hDa e1) (cwV 1 S.2.2.2.2 gX10_packOne_X10_lengthOf rfl rfl rfl (by decide +kernel) ⟨Nat.le_of_ble_eq_true rfl, Nat.le_of_ble_eq_true rfl⟩) hK hP hS hZ 0 10 rfl rfl rfl hl.1 rfl (Nat.le_of_ble_eq_true rfl) dX10_packOne_10 ⟨Nat.zero_le _, Nat.zero_le _⟩ (fun H locs hP hS => ?_)
  refine lv_iadd hx hb dX10_packOne_13 ?_
  refine lv_istore_n (lv' := [(3, .int ((a1 * (σ 0 2)) + r1)), (2, .int (a1 * (σ 0 2))), (0, .ref (ad 0)), (1, .int a1)]) hx hb dX10_packOne_14 rfl hl (by decide) rfl (fun ls hl => ?_)
  refine lv_iload_n hx hb dX10_packOne_15 rfl (lv_at hl 1 rfl) ?_
  refine lv_istore (lv' := [(4, .int (a1 * (σ 0 2))), (3, .int ((a1 * (σ 0 2)) + r1)), (2, .int (a1 * (σ 0 2))), (0, .ref (ad 0)), (1, .int a1)]) hx hb dX10_packOne_16 hl (by decide) rfl (fun ls hl => ?_)
  refine lv_aload_n hx hb dX10_packOne_18 rfl (lv_at hl 3 rfl) ?_
  refine gf_X10_13 S hiX10 hK hP hf42 dX10_packOne_19 ?_
  refine lv_iload_n hx hb dX10_packOne_22 rfl (lv_at hl 4 rfl) ?_
  refine lv_iconst (v := 0) hx hb dX10_packOne_23 (by decide) ?_
  replace h := pt_gd h; obtain ⟨g2, h⟩ := h
  replace h := pt_dos h; obtain ⟨σ3, e3, h⟩ := h
  refine st_R_7 S hK hP hDa hS g2 e3 dX10_packOne_24 (fun H locs hP hS => ?_)
  have X25 : ∀ (σ : pt_St) (x2 : Int32) (x3 : Int32) (x4 : Int32), kx_X10_packOne_25 a1 σ x2 x3 x4 = some σ' → ∀ (H : Heap) (locs : List Loc) (ls : Array Slot), va_P D vwCl (wR ca ad σ) H → va_S A s.heap H locs → lv_has ls 9 [(0, .ref (ad 0)), (1, .int a1), (2, .int x2), (3, .int x3), (4, .int x4)] → W p l e (headSpec wsX10_packOne { frames := 2, cells := 0, slots := 0, locals := 44 }).room s m ([.ref (ad 0), .int a1] : List Value).toArray below meth c H locs 0 0 (MQ below (pt_Q none D (wR ca ad σ') A) ([.ref (ad 0), .int a1] : List Value).toArray s 0 0 A) (F0 m 159 ls []) := by
    intro σ x2 x3 x4 h H locs ls hP hS hl
    unfold kx_X10_packOne_25 at h
    refine lv_aload_n hx hb dX10_packOne_159 rfl (lv_at hl 0 rfl) ?_
    refine lv_iload hx hb dX10_packOne_160 (lv_at hl 4 rfl) ?_
    refine lv_iload_n hx hb dX10_packOne_162 rfl (lv_at hl 3 rfl) ?_
    replace h := pt_b1s h; obtain ⟨σ26501, e26501, h⟩ := h
    refine pt_cVv (As := [.int x4, .int x3]) (rest := []) S (m_X10_plainTo l hDa e26501) (cwV 2 S.2.2.2.2 gX10_packOne_X10_plainTo rfl rfl rfl (by decide +kernel) ⟨Nat.le_of_ble_eq_true rfl, Nat.le_of_ble_eq_true rfl⟩) hK hP hS hZ 0 10 rfl rfl rfl hl.1 rfl (Nat.le_of_ble_eq_true rfl) dX10_packOne_163 ⟨Nat.zero_le _, Nat.zero_le _⟩ (fun H locs hP hS => ?_)
    refine lv_aload_n hx hb dX10_packOne_166 rfl (lv_at hl 0 rfl) ?_
    refine lv_iconst (v := 0) hx hb dX10_packOne_167 (by decide) ?_
    replace h := pt_b1s h; obtain ⟨σ26502, e26502, h⟩ := h
    refine pt_cVv (As := [.int (0 : Int32)]) (rest := []) S (m_X10_lay l hDa e26502) (cwV 1 S.2.2.2.2 gX10_packOne_X10_lay rfl rfl rfl (by decide +kernel) ⟨Nat.le_of_ble_eq_true rfl, Nat.le_of_ble_eq_true rfl⟩) hK hP hS hZ 0 10 rfl rfl rfl hl.1 rfl (Nat.le_of_ble_eq_true rfl) dX10_packOne_168 ⟨Nat.zero_le _, Nat.zero_le _⟩ (fun H locs hP hS => ?_)
    refine lv_aload_n hx hb dX10_packOne_171 rfl (lv_at hl 0 rfl) ?_
    refine gf_X10_12 S hiX10 hK hP hf39 dX10_packOne_172 ?_
    refine lv_iload_n hx hb dX10_packOne_175 rfl (lv_at hl 1 rfl) ?_
    refine lv_aload_n hx hb dX10_packOne_176 rfl (lv_at hl 0 rfl) ?_
    refine gf_X10_10 S hiX10 hK hP hf89 dX10_packOne_177 ?_
    replace h := pt_gd h; obtain ⟨g26503, h⟩ := h
    replace h := pt_dos h; obtain ⟨σ26504, e26504, h⟩ := h
    refine st_R_6 S hK hP hDa hS g26503 e26504 dX10_packOne_180 (fun H locs hP hS => ?_)
    exact pt_vret S hr hlk hP hS (congrArg (wR ca ad) (pt_so h)) dX10_packOne_181
  have L25 : ∀ (n : Nat) (σ : pt_St) (x2 : Int32) (x3 : Int32) (x4 : Int32),  lp_X10_packOne_25 (kx_X10_packOne_25 a1) a1 n σ x2 x3 x4 = some σ' → ∀ (H : Heap) (locs : List Loc) (ls : Array Slot), va_P D vwCl (wR ca ad σ) H → va_S A s.heap H locs → lv_has ls 9 [(0, .ref (ad 0)), (1, .int a1), (2, .int x2), (3, .int x3), (4, .int x4)] → W p l e (headSpec wsX10_packOne { frames := 2, cells := 0, slots := 0, locals := 44 }).room s m ([.ref (ad 0), .int a1] : List Value).toArray below meth c H locs 0 0 (MQ below (pt_Q none D (wR ca ad σ') A) ([.ref (ad 0), .int a1] : List Value).toArray s 0 0 A) (F0 m 25 ls []) := by
    intro n
    induction n with
    | zero => intro σ x2 x3 x4 h; cases h
    | succ n ih0 =>
      intro σ x2 x3 x4 h H locs ls hP hS hl
      rw [lp_X10_packOne_25] at h
      refine lv_iload_n hx hb dX10_packOne_25 rfl (lv_at hl 2 rfl) ?_
      refine lv_iload_n hx hb dX10_packOne_26 rfl (lv_at hl 3 rfl) ?_
      refine lv_icmp_ge (tgt := 159) hx hb dX10_packOne_27 (by decide) (fun c26001 => ?_) (fun c26001 => ?_)
      · replace h := pt_ip c26001 h
        exact X25 _ _ _ _ h _ _ _ hP hS (lv_sub hl [0, 1, 2, 3, 4] rfl)
      · replace h := pt_iN c26001 h
        refine lv_iconst (v := 0) hx hb dX10_packOne_30 (by decide) ?_
        refine lv_istore (lv' := [(5, .int (0 : Int32)), (0, .ref (ad 0)), (1, .int a1), (2, .int x2), (3, .int x3), (4, .int x4)]) hx hb dX10_packOne_31 hl (by decide) rfl (fun ls hl => ?_)
        refine lv_iconst (v := 0) hx hb dX10_packOne_33 (by decide) ?_
        refine lv_istore (lv' := [(6, .int (0 : Int32)), (5, .int (0 : Int32)), (0, .ref (ad 0)), (1, .int a1), (2, .int x2), (3, .int x3), (4, .int x4)]) hx hb dX10_packOne_34 hl (by decide) rfl (fun ls hl => ?_)
        refine lv_iconst (v := 1) hx hb dX10_packOne_36 (by decide) ?_
        refine lv_istore (lv' := [(7, .int (1 : Int32)), (6, .int (0 : Int32)), (5, .int (0 : Int32)), (0, .ref (ad 0)), (1, .int a1), (2, .int x2), (3, .int x3), (4, .int x4)]) hx hb dX10_packOne_37 hl (by decide) rfl (fun ls hl => ?_)
        have L39 : ∀ (k1 : pt_St → Int32 → Int32 → Int32 → Option pt_St), (∀ (σ : pt_St) (x5 : Int32) (x6 : Int32) (x7 : Int32), k1 σ x5 x6 x7 = some σ' → ∀ (H : Heap) (locs : List Loc) (ls : Array Slot), va_P D vwCl (wR ca ad σ) H → va_S A s.heap H locs → lv_has ls 9 [(0, .ref (ad 0)), (1, .int a1), (2, .int x2), (3, .int x3), (4, .int x4), (5, .int x5), (6, .int x6), (7, .int x7)] → W p l e (headSpec wsX10_packOne { frames := 2, cells := 0, slots := 0, locals := 44 }).room s m ([.ref (ad 0), .int a1] : List Value).toArray below meth c H locs 0 0 (MQ below (pt_Q none D (wR ca ad σ') A) ([.ref (ad 0), .int a1] : List Value).toArray s 0 0 A) (F0 m 102 ls [])) → ∀ (n1 : Nat) (σ : pt_St) (x5 : Int32) (x6 : Int32) (x7 : Int32),  lp_X10_packOne_39 k1 a1 x2 x3 x4 n1 σ x5 x6 x7 = some σ' → ∀ (H : Heap) (locs : List Loc) (ls : Array Slot), va_P D vwCl (wR ca ad σ) H → va_S A s.heap H locs → lv_has ls 9 [(0, .ref (ad 0)), (1, .int a1), (2, .int x2), (3, .int x3), (4, .int x4), (5, .int x5), (6, .int x6), (7, .int x7)] → W p l e (headSpec wsX10_packOne { frames := 2, cells := 0, slots := 0, locals := 44 }).room s m ([.ref (ad 0), .int a1] : List Value).toArray below meth c H locs 0 0 (MQ below (pt_Q none D (wR ca ad σ') A) ([.ref (ad 0), .int a1] : List Value).toArray s 0 0 A) (F0 m 39 ls []) := by
          intro k1 X39 n1
          induction n1 with
          | zero => intro σ x5 x6 x7 h; cases h
          | succ n1 ih1 =>
            intro σ x5 x6 x7 h H locs ls hP hS hl
            rw [lp_X10_packOne_39] at h
            refine lv_iload hx hb dX10_packOne_39 (lv_at hl 7 rfl) ?_
            refine lv_aload_n hx hb dX10_packOne_41 rfl (lv_at hl 0 rfl) ?_
            refine gf_X10_3 S hiX10 hK hP hf17 dX10_packOne_42 ?_
            refine lv_icmp_gt (tgt := 102) hx hb dX10_packOne_45 (by decide) (fun c40001 => ?_) (fun c40001 => ?_)
            · replace h := pt_ip c40001 h
              exact X39 _ _ _ _ h _ _ _ hP hS (lv_sub hl [0, 1, 2, 3, 4, 5, 6, 7] rfl)
            · replace h := pt_iN c40001 h
              refine lv_iload hx hb dX10_packOne_48 (lv_at hl 7 rfl) ?_
              refine lv_iload_n hx hb dX10_packOne_50 rfl (lv_at hl 2 rfl) ?_
              refine lv_icmp_gt (tgt := 102) hx hb dX10_packOne_51 (by decide) (fun c40002 => ?_) (fun c40002 => ?_)
              · replace h := pt_ip c40002 h
                exact X39 _ _ _ _ h _ _ _ hP hS (lv_sub hl [0, 1, 2, 3, 4, 5, 6, 7] rfl)
              · replace h := pt_iN c40002 h
                refine lv_aload_n hx hb dX10_packOne_54 rfl (lv_at hl 0 rfl) ?_
                refine lv_iload_n hx hb dX10_packOne_55 rfl (lv_at hl 2 rfl) ?_
                refine lv_iload_n hx hb dX10_packOne_56 rfl (lv_at hl 3 rfl) ?_
                refine lv_iload hx hb dX10_packOne_57 (lv_at hl 7 rfl) ?_
                replace h := pt_b2s h; obtain ⟨r40003, σ40003, e40003, h⟩ := h
                refine pt_cVi (As := [.int x2, .int x3, .int x7]) (rest := []) S (m_X10_alike l hDa e40003) (cwV 3 S.2.2.2.2 gX10_packOne_X10_alike rfl rfl rfl (by decide +kernel) ⟨Nat.le_of_ble_eq_true rfl, Nat.le_of_ble_eq_true rfl⟩) hK hP hS hZ 0 10 rfl rfl rfl hl.1 rfl (Nat.le_of_ble_eq_true rfl) dX10_packOne_59 ⟨Nat.zero_le _, Nat.zero_le _⟩ (fun H locs hP hS => ?_)
                refine lv_istore (lv' := [(8, .int r40003), (0, .ref (ad 0)), (1, .int a1), (2, .int x2), (3, .int x3), (4, .int x4), (5, .int x5), (6, .int x6), (7, .int x7)]) hx hb dX10_packOne_62 hl (by decide) rfl (fun ls hl => ?_)
                refine lv_iload hx hb dX10_packOne_64 (lv_at hl 0 rfl) ?_
                refine lv_iload hx hb dX10_packOne_66 (lv_at hl 6 rfl) ?_
                refine lv_icmp_le (tgt := 76) hx hb dX10_packOne_68 (by decide) (fun c40004 => ?_) (fun c40004 => ?_)
                · replace h := pt_ip c40004 h
                  refine lv_iload hx hb dX10_packOne_76 (lv_at hl 7 rfl) ?_
                  refine lv_istore (lv' := [(6, .int x6), (8, .int r40003), (0, .ref (ad 0)), (1, .int a1), (2, .int x2), (3, .int x3), (4, .int x4), (5, .int x5), (7, .int x7)]) hx hb dX10_packOne_78 hl (by decide) rfl (fun ls hl => ?_)
                  refine lv_iload hx hb dX10_packOne_80 (lv_at hl 1 rfl) ?_
                  refine lv_iload hx hb dX10_packOne_82 (lv_at hl 7 rfl) ?_
                  refine lv_icmp_le (tgt := 92) hx hb dX10_packOne_84 (by decide) (fun c40005 => ?_) (fun c40005 => ?_)
                  · refine lv_iload hx hb dX10_packOne_92 (lv_at hl 7 rfl) ?_
                    refine lv_istore (lv' := [(5, .int x5), (6, .int x6), (8, .int r40003), (0, .ref (ad 0)), (1, .int a1), (2, .int x2), (3, .int x3), (4, .int x4), (7, .int x7)]) hx hb dX10_packOne_94 hl (by decide) rfl (fun ls hl => ?_)
                    refine lv_iinc (v := x7 + (1 : Int32)) (lv' := [(7, .int (x7 + (1 : Int32))), (5, .int x5), (6, .int x6), (8, .int r40003), (0, .ref (ad 0)), (1, .int a1), (2, .int x2), (3, .int x3), (4, .int x4)]) hx hb dX10_packOne_96 hl (k := 8) rfl rfl (by decide) rfl (fun ls hl => ?_)
                    refine lv_goto (tgt := 39) hx hb dX10_packOne_99 (by decide) ?_
                    exact ih1 _ _ _ _ h _ _ _ hP hS (lv_sub hl [4, 5, 6, 7, 8, 1, 2, 0] rfl)
                  · exact absurd c40004 c40005
                · replace h := pt_iN c40004 h
                  refine lv_iload hx hb dX10_packOne_71 (lv_at hl 8 rfl) ?_
                  refine lv_goto (tgt := 78) hx hb dX10_packOne_73 (by decide) ?_
                  refine lv_istore (lv' := [(6, .int x7), (8, .int r40003), (0, .ref (ad 0)), (1, .int a1), (2, .int x2), (3, .int x3), (4, .int x4), (5, .int x5), (7, .int x7)]) hx hb dX10_packOne_78 hl (by decide) rfl (fun ls hl => ?_)
                  refine lv_iload hx hb dX10_packOne_80 (lv_at hl 1 rfl) ?_
                  refine lv_iload hx hb dX10_packOne_82 (lv_at hl 7 rfl) ?_
                  refine lv_icmp_le (tgt := 92) hx hb dX10_packOne_84 (by decide) (fun c40006 => ?_) (fun c40006 => ?_)
                  · exact absurd c40006 c40004
                  · refine lv_iload hx hb dX10_packOne_87 (lv_at hl 1 rfl) ?_
                    refine lv_goto (tgt := 94) hx hb dX10_packOne_89 (by decide) ?_
                    refine lv_istore (lv' := [(5, .int r40003), (6, .int x7), (8, .int r40003), (0, .ref (ad 0)), (1, .int a1), (2, .int x2), (3, .int x3), (4, .int x4), (7, .int x7)]) hx hb dX10_packOne_94 hl (by decide) rfl (fun ls hl => ?_)
                    refine lv_iinc (v := x7 + (1 : Int32)) (lv' := [(7, .int (x7 + (1 : Int32))), (5, .int r40003), (6, .int x7), (8, .int r40003), (0, .ref (ad 0)), (1, .int a1), (2, .int x2), (3, .int x3), (4, .int x4)]) hx hb dX10_packOne_96 hl (k := 8) rfl rfl (by decide) rfl (fun ls hl => ?_)
                    refine lv_goto (tgt := 39) hx hb dX10_packOne_99 (by decide) ?_
                    exact ih1 _ _ _ _ h _ _ _ hP hS (lv_sub hl [4, 5, 6, 7, 8, 1, 2, 0] rfl)
        refine L39 _ (fun τ39 x5 x6 x7 h H locs ls hP hS hl => ?_) _ _ _ _ _ h _ _ _ hP hS (lv_sub hl [3, 4, 5, 6, 7, 2, 1, 0] rfl)
        refine lv_aload_n hx hb dX10_packOne_102 rfl (lv_at hl 0 rfl) ?_
        refine gf_X10_13 S hiX10 hK hP hf42 dX10_packOne_103 ?_
        refine lv_iload_n hx hb dX10_packOne_106 rfl (lv_at hl 1 rfl) ?_
        refine lv_dup2_11 hx hb dX10_packOne_107 rfl rfl ?_
        replace h := pt_gd h; obtain ⟨g40501, h⟩ := h
        refine ld_R_7 S hK hP g40501 dX10_packOne_108 ?_
        refine lv_iconst (v := 1) hx hb dX10_packOne_109 (by decide) ?_
        refine lv_iadd hx hb dX10_packOne_110 ?_
        replace h := pt_dos h; obtain ⟨σ40502, e40502, h⟩ := h
        refine st_R_7 S hK hP hDa hS g40501 e40502 dX10_packOne_111 (fun H locs hP hS => ?_)
        refine lv_iload hx hb dX10_packOne_112 (lv_at hl 5 rfl) ?_
        refine lv_iconst (v := 3) hx hb dX10_packOne_114 (by decide) ?_
        refine lv_icmp_lt (tgt := 153) hx hb dX10_packOne_115 (by decide) (fun c40503 => ?_) (fun c40503 => ?_)
        · replace h := pt_ip c40503 h
          refine lv_iinc (v := x2 + (1 : Int32)) (lv' := [(2, .int (x2 + (1 : Int32))), (0, .ref (ad 0)), (1, .int a1), (3, .int x3), (4, .int x4), (5, .int x5), (6, .int x6), (7, .int x7)]) hx hb dX10_packOne_153 hl (k := 2) rfl rfl (by decide) rfl (fun ls hl => ?_)
          refine lv_goto (tgt := 25) hx hb dX10_packOne_156 (by decide) ?_
          exact ih0 _ _ _ _ h _ _ _ hP hS (lv_sub hl [1, 2, 0, 3, 4] rfl)
        · replace h := pt_iN c40503 h
          refine lv_aload_n hx hb dX10_packOne_118 rfl (lv_at hl 0 rfl) ?_
          refine lv_iload hx hb dX10_packOne_119 (lv_at hl 4 rfl) ?_
          refine lv_iload_n hx hb dX10_packOne_121 rfl (lv_at hl 2 rfl) ?_
          replace h := pt_b1s h; obtain ⟨σ40504, e40504, h⟩ := h
          refine pt_cVv (As := [.int x4, .int x2]) (rest := []) S (m_X10_plainTo l hDa e40504) (cwV 2 S.2.2.2.2 gX10_packOne_X10_plainTo rfl rfl rfl (by decide +kernel) ⟨Nat.le_of_ble_eq_true rfl, Nat.le_of_ble_eq_true rfl⟩) hK hP hS hZ 0 10 rfl rfl rfl hl.1 rfl (Nat.le_of_ble_eq_true rfl) dX10_packOne_122 ⟨Nat.zero_le _, Nat.zero_le _⟩ (fun H locs hP hS => ?_)
          refine lv_aload_n hx hb dX10_packOne_125 rfl (lv_at hl 0 rfl) ?_
          refine lv_bipush (v := 125) hx hb dX10_packOne_126 (by decide) ?_
          refine lv_iload hx hb dX10_packOne_128 (lv_at hl 5 rfl) ?_
          refine lv_iadd hx hb dX10_packOne_130 ?_
          replace h := pt_b1s h; obtain ⟨σ40505, e40505, h⟩ := h
          refine pt_cVv (As := [.int ((125 : Int32) + x5)]) (rest := []) S (m_X10_lay l hDa e40505) (cwV 1 S.2.2.2.2 gX10_packOne_X10_lay rfl rfl rfl (by decide +kernel) ⟨Nat.le_of_ble_eq_true rfl, Nat.le_of_ble_eq_true rfl⟩) hK hP hS hZ 0 10 rfl rfl rfl hl.1 rfl (Nat.le_of_ble_eq_true rfl) dX10_packOne_131 ⟨Nat.zero_le _, Nat.zero_le _⟩ (fun H locs hP hS => ?_)
          refine lv_aload_n hx hb dX10_packOne_134 rfl (lv_at hl 0 rfl) ?_
          refine lv_iload hx hb dX10_packOne_135 (lv_at hl 6 rfl) ?_
          refine lv_iconst (v := 1) hx hb dX10_packOne_137 (by decide) ?_
          refine lv_isub hx hb dX10_packOne_138 ?_
          replace h := pt_b1s h; obtain ⟨σ40506, e40506, h⟩ := h
          refine pt_cVv (As := [.int (x6 - (1 : Int32))]) (rest := []) S (m_X10_lay l hDa e40506) (cwV 1 S.2.2.2.2 gX10_packOne_X10_lay rfl rfl rfl (by decide +kernel) ⟨Nat.le_of_ble_eq_true rfl, Nat.le_of_ble_eq_true rfl⟩) hK hP hS hZ 0 10 rfl rfl rfl hl.1 rfl (Nat.le_of_ble_eq_true rfl) dX10_packOne_139 ⟨Nat.zero_le _, Nat.zero_le _⟩ (fun H locs hP hS => ?_)
          refine lv_iload_n hx hb dX10_packOne_142 rfl (lv_at hl 2 rfl) ?_
          refine lv_iload hx hb dX10_packOne_143 (lv_at hl 5 rfl) ?_
          refine lv_iadd hx hb dX10_packOne_145 ?_
          refine lv_istore_n (lv' := [(2, .int (x2 + x5)), (0, .ref (ad 0)), (1, .int a1), (3, .int x3), (4, .int x4), (5, .int x5), (6, .int x6), (7, .int x7)]) hx hb dX10_packOne_146 rfl hl (by decide) rfl (fun ls hl => ?_)
          refine lv_iload_n hx hb dX10_packOne_147 rfl (lv_at hl 0 rfl) ?_
          refine lv_istore (lv' := [(4, .int (x2 + x5)), (2, .int (x2 + x5)), (0, .ref (ad 0)), (1, .int a1), (3, .int x3), (5, .int x5), (6, .int x6), (7, .int x7)]) hx hb dX10_packOne_148 hl (by decide) rfl (fun ls hl => ?_)
          refine lv_goto (tgt := 156) hx hb dX10_packOne_150 (by decide) ?_
          refine lv_goto (tgt := 25) hx hb dX10_packOne_156 (by decide) ?_
          exact ih0 _ _ _ _ h _ _ _ hP hS (lv_sub hl [2, 3, 1, 4, 0] rfl)
  exact L25 _ _ _ _ _ h _ _ _ hP hS (lv_sub hl [3, 4, 2, 1, 0] rfl)

def lp_X10_packAll_20 (k : pt_St → Int32 → Option pt_St) : Nat → pt_St → Int32 → Option pt_St
  | 0, _, _ => none
  | n + 1, σ, x1 =>
    pt_b2 (f_X10_many σ) fun r21001 σ21001 =>
    if r21001 ≤ x1 then
    k σ21001 x1
    else
    pt_b1 (f_X10_packOne σ21001 x1) fun σ21003 =>
    lp_X10_packAll_20 k n σ21003 (x1 + (1 : Int32))
def kx_X10_packAll_20 (σ : pt_St) (x1 : Int32) : Option pt_St :=
  some σ
def f_X10_packAll (σ : pt_St) : Option pt_St :=
  if (σ 0 9) = (0 : Int32) then
  pt_do (pt_put σ 0 9 (1 : Int32)) fun σ2 =>
  pt_do (pt_put σ2 0 10 (0 : Int32)) fun σ3 =>
  lp_X10_packAll_20 (kx_X10_packAll_20) pt_F σ3 (0 : Int32)
  else
  some σ
set_option maxHeartbeats 4000000 in
set_option maxRecDepth 100000 in
theorem m_X10_packAll (l : Launch) {D : va_G} {A : Nat → Prop} {ca : Nat → ClassId} {ad : Nat → Nat} {z : Nat × Nat} (hDa : ∀ σ, va_D A (wR ca ad σ)) {σ σ' : pt_St} (h : f_X10_packAll σ = some σ') : Met l yX10_packAll wsX10_packAll { frames := 3, cells := 0, slots := 0, locals := 72 } (va_Pc [.ref (ad 0)] (pt_Pre D (tysR ca) z A (wR ca ad σ))) (pt_Q none D (wR ca ad σ') A) 0 0 A := by
  refine Met.ofW (cc := cX10_packAll) (maxL := 2) (ret := none) (by decide) rfl ?_
  intro p e s m args below meth c s₁ B hml hv
  obtain ⟨rfl, hP, hK, hZ⟩ := hv
  have S : CallFix p m c cX10_packAll 2 s ([.ref (ad 0)] : List Value).toArray wsX10_packAll RX10 := ⟨B.exec, B.bytes, hml, findClass_of_methodNamed B.named, atoms_spec (ws := wsX10_packAll) B.pre⟩
  have hx := S.1
  have hb := S.2.1
  have hr := B.returns
  have hlk := B.notSynchronized
  clear B
  have hiX10 : ∀ w ∈ wsX100, w ∈ wsX10_packAll := fun w h => List.mem_cons_of_mem _ (List.mem_append_right _ h)
  have hf86 : (Cond.fieldLink RX10 86 "PackThreadsModel" "isPacked" "Z").before _ s = true := S.2.2.2.2 _ (List.mem_of_getElem? (i := 1) rfl)
  have hf89 : (Cond.fieldLink RX10 89 "PackThreadsModel" "packed" "I").before _ s = true := S.2.2.2.2 _ (List.mem_of_getElem? (i := 2) rfl)
  have hS : va_S A s.heap s.heap [] := va_S.rf
  have hl := lv_entry ([.ref (ad 0)]) (n := 2) (Nat.le_of_ble_eq_true rfl)
  rw [lg_entry_eq]
  generalize (lg_sl ([.ref (ad 0)]) ++ List.replicate (2 - (lg_sl ([.ref (ad 0)])).length) Slot.unset).toArray = ls at hl ⊢
  have hl : lv_has ls 2 [(0, .ref (ad 0))] := hl
  unfold f_X10_packAll at h
  refine lv_aload_n hx hb dX10_packAll_0 rfl (lv_at hl 0 rfl) ?_
  refine gf_X10_9 S hiX10 hK hP hf86 dX10_packAll_1 ?_
  refine lv_if_eq (tgt := 8) hx hb dX10_packAll_4 (by decide) (fun c1 => ?_) (fun c1 => ?_)
  · replace h := pt_ip c1 h
    refine lv_aload_n hx hb dX10_packAll_8 rfl (lv_at hl 0 rfl) ?_
    refine lv_iconst (v := 1) hx hb dX10_packAll_9 (by decide) ?_
    replace h := pt_dos h; obtain ⟨σ2, e2, h⟩ := h
    refine pf_X10_9 S hiX10 hK hP hDa hS hf86 (Or.inr rfl) e2 dX10_packAll_10 (fun H locs hP hS => ?_)
    refine lv_aload_n hx hb dX10_packAll_13 rfl (lv_at hl 0 rfl) ?_
    refine lv_iconst (v := 0) hx hb dX10_packAll_14 (by decide) ?_
    replace h := pt_dos h; obtain ⟨σ3, e3, h⟩ := h
    refine pf_X10_10 S hiX10 hK hP hDa hS hf89 e3 dX10_packAll_15 (fun H locs hP hS => ?_)
    refine lv_iconst (v := 0) hx hb dX10_packAll_18 (by decide) ?_
    refine lv_istore_n (lv' := [(1, .int (0 : Int32)), (0, .ref (ad 0))]) hx hb dX10_packAll_19 rfl hl (by decide) rfl (fun ls hl => ?_)
    have X20 : ∀ (σ : pt_St) (x1 : Int32), kx_X10_packAll_20 σ x1 = some σ' → ∀ (H : Heap) (locs : List Loc) (ls : Array Slot), va_P D vwCl (wR ca ad σ) H → va_S A s.heap H locs → lv_has ls 2 [(0, .ref (ad 0)), (1, .int x1)] → W p l e (headSpec wsX10_packAll { frames := 3, cells := 0, slots := 0, locals := 72 }).room s m ([.ref (ad 0)] : List Value).toArray below meth c H locs 0 0 (MQ below (pt_Q none D (wR ca ad σ') A) ([.ref (ad 0)] : List Value).toArray s 0 0 A) (F0 m 39 ls []) := by
      intro σ x1 h H locs ls hP hS hl
      unfold kx_X10_packAll_20 at h
      exact pt_vret S hr hlk hP hS (congrArg (wR ca ad) (pt_so h)) dX10_packAll_39
    have L20 : ∀ (n : Nat) (σ : pt_St) (x1 : Int32),  lp_X10_packAll_20 (kx_X10_packAll_20) n σ x1 = some σ' → ∀ (H : Heap) (locs : List Loc) (ls : Array Slot), va_P D vwCl (wR ca ad σ) H → va_S A s.heap H locs → lv_has ls 2 [(0, .ref (ad 0)), (1, .int x1)] → W p l e (headSpec wsX10_packAll { frames := 3, cells := 0, slots := 0, locals := 72 }).room s m ([.ref (ad 0)] : List Value).toArray below meth c H locs 0 0 (MQ below (pt_Q none D (wR ca ad σ') A) ([.ref (ad 0)] : List Value).toArray s 0 0 A) (F0 m 20 ls []) := by
      intro n
      induction n with
      | zero => intro σ x1 h; cases h
      | succ n ih0 =>
        intro σ x1 h H locs ls hP hS hl
        rw [lp_X10_packAll_20] at h
        refine lv_iload_n hx hb dX10_packAll_20 rfl (lv_at hl 1 rfl) ?_
        refine lv_aload_n hx hb dX10_packAll_21 rfl (lv_at hl 0 rfl) ?_
        replace h := pt_b2s h; obtain ⟨r21001, σ21001, e21001, h⟩ := h
        refine pt_cVi (As := []) (rest := [.int x1]) S (m_X10_many l hDa e21001) (cwV 0 S.2.2.2.2 gX10_packAll_X10_many rfl rfl rfl (by decide +kernel) ⟨Nat.le_of_ble_eq_true rfl, Nat.le_of_ble_eq_true rfl⟩) hK hP hS hZ 0 10 rfl rfl rfl hl.1 rfl (Nat.le_of_ble_eq_true rfl) dX10_packAll_22 ⟨Nat.zero_le _, Nat.zero_le _⟩ (fun H locs hP hS => ?_)
        refine lv_icmp_ge (tgt := 39) hx hb dX10_packAll_25 (by decide) (fun c21002 => ?_) (fun c21002 => ?_)
        · replace h := pt_ip c21002 h
          exact X20 _ _ h _ _ _ hP hS (lv_sub hl [0, 1] rfl)
        · replace h := pt_iN c21002 h
          refine lv_aload_n hx hb dX10_packAll_28 rfl (lv_at hl 0 rfl) ?_
          refine lv_iload_n hx hb dX10_packAll_29 rfl (lv_at hl 1 rfl) ?_
          replace h := pt_b1s h; obtain ⟨σ21003, e21003, h⟩ := h
          refine pt_cVv (As := [.int x1]) (rest := []) S (m_X10_packOne l hDa e21003) (cwV 1 S.2.2.2.2 gX10_packAll_X10_packOne rfl rfl rfl (by decide +kernel) ⟨Nat.le_of_ble_eq_true rfl, Nat.le_of_ble_eq_true rfl⟩) hK hP hS hZ 0 10 rfl rfl rfl hl.1 rfl (Nat.le_of_ble_eq_true rfl) dX10_packAll_30 ⟨Nat.zero_le _, Nat.zero_le _⟩ (fun H locs hP hS => ?_)
          refine lv_iinc (v := x1 + (1 : Int32)) (lv' := [(1, .int (x1 + (1 : Int32))), (0, .ref (ad 0))]) hx hb dX10_packAll_33 hl (k := 1) rfl rfl (by decide) rfl (fun ls hl => ?_)
          refine lv_goto (tgt := 20) hx hb dX10_packAll_36 (by decide) ?_
          exact ih0 _ _ h _ _ _ hP hS (lv_sub hl [1, 0] rfl)
    exact L20 _ _ _ h _ _ _ hP hS (lv_sub hl [1, 0] rfl)
  · replace h := pt_iN c1 h
    exact pt_vret S hr hlk hP hS (congrArg (wR ca ad) (pt_so h)) dX10_packAll_7

def f_X10_plain (σ : pt_St) (a1 : Int32) : Option (Int32 × pt_St) :=
  pt_b1 (f_X10_packAll σ) fun σ1 =>
  pt_b2 (f_X10_in σ1 a1 (0 : Int32) ((σ1 0 10) - (1 : Int32))) fun r2 σ2 =>
  if r2 = (0 : Int32) then
  some ((-1 : Int32), σ2)
  else
  if pt_in a1 700 then
  some ((σ2 5 a1.toNatClampNeg), σ2)
  else none
set_option maxHeartbeats 4000000 in
set_option maxRecDepth 100000 in
theorem m_X10_plain (l : Launch) {D : va_G} {A : Nat → Prop} {ca : Nat → ClassId} {ad : Nat → Nat} {z : Nat × Nat} (hDa : ∀ σ, va_D A (wR ca ad σ)) {σ σ' : pt_St} {r : Int32} {a1 : Int32} (h : f_X10_plain σ a1 = some (r, σ')) : Met l yX10_plain wsX10_plain { frames := 4, cells := 0, slots := 0, locals := 93 } (va_Pc [.ref (ad 0), .int a1] (pt_Pre D (tysR ca) z A (wR ca ad σ))) (pt_Q (some (.int r)) D (wR ca ad σ') A) 0 0 A := by
  refine Met.ofW (cc := cX10_plain) (maxL := 2) (ret := (some .int)) (by decide) rfl ?_
  intro p e s m args below meth c s₁ B hml hv
  obtain ⟨rfl, hP, hK, hZ⟩ := hv
  have S : CallFix p m c cX10_plain 2 s ([.ref (ad 0), .int a1] : List Value).toArray wsX10_plain RX10 := ⟨B.exec, B.bytes, hml, findClass_of_methodNamed B.named, atoms_spec (ws := wsX10_plain) B.pre⟩
  have hx := S.1
  have hb := S.2.1
  have hr := B.returns
  have hlk := B.notSynchronized
  clear B
  have hiX10 : ∀ w ∈ wsX100, w ∈ wsX10_plain := fun w h => List.mem_cons_of_mem _ (List.mem_append_right _ h)
  have hf89 : (Cond.fieldLink RX10 89 "PackThreadsModel" "packed" "I").before _ s = true := S.2.2.2.2 _ (List.mem_of_getElem? (i := 1) rfl)
  have hf36 : (Cond.fieldLink RX10 36 "PackThreadsModel" "pack" "[I").before _ s = true := S.2.2.2.2 _ (List.mem_of_getElem? (i := 2) rfl)
  have hS : va_S A s.heap s.heap [] := va_S.rf
  have hl := lv_entry ([.ref (ad 0), .int a1]) (n := 2) (Nat.le_of_ble_eq_true rfl)
  rw [lg_entry_eq]
  generalize (lg_sl ([.ref (ad 0), .int a1]) ++ List.replicate (2 - (lg_sl ([.ref (ad 0), .int a1])).length) Slot.unset).toArray = ls at hl ⊢
  have hl : lv_has ls 2 [(0, .ref (ad 0)), (1, .int a1)] := hl
  unfold f_X10_plain at h
  refine lv_aload_n hx hb dX10_plain_0 rfl (lv_at hl 0 rfl) ?_
  replace h := pt_b1s h; obtain ⟨σ1, e1, h⟩ := h
  refine pt_cVv (As := []) (rest := []) S (m_X10_packAll l hDa e1) (cwV 0 S.2.2.2.2 gX10_plain_X10_packAll rfl rfl rfl (by decide +kernel) ⟨Nat.le_of_ble_eq_true rfl, Nat.le_of_ble_eq_true rfl⟩) hK hP hS hZ 0 10 rfl rfl rfl hl.1 rfl (Nat.le_of_ble_eq_true rfl) dX10_plain_1 ⟨Nat.zero_le _, Nat.zero_le _⟩ (fun H locs hP hS => ?_)
  refine lv_iload_n hx hb dX10_plain_4 rfl (lv_at hl 1 rfl) ?_
  refine lv_iconst (v := 0) hx hb dX10_plain_5 (by decide) ?_
  refine lv_aload_n hx hb dX10_plain_6 rfl (lv_at hl 0 rfl) ?_
  refine gf_X10_10 S hiX10 hK hP hf89 dX10_plain_7 ?_
  refine lv_iconst (v := 1) hx hb dX10_plain_10 (by decide) ?_
  refine lv_isub hx hb dX10_plain_11 ?_
  replace h := pt_b2s h; obtain ⟨r2, σ2, e2, h⟩ := h
  refine pt_cSi (As := [.int a1, .int (0 : Int32), .int ((σ1 0 10) - (1 : Int32))]) (rest := []) S (m_X10_in l hDa e2) (cwS 3 S.2.2.2.2 gX10_plain_X10_in rfl rfl rfl (by decide +kernel) ⟨Nat.le_of_ble_eq_true rfl, Nat.le_of_ble_eq_true rfl⟩) hK hP hS hZ rfl hl.1 rfl (Nat.le_of_ble_eq_true rfl) dX10_plain_12 ⟨Nat.zero_le _, Nat.zero_le _⟩ (fun H locs hP hS => ?_)
  refine lv_if_eq (tgt := 27) hx hb dX10_plain_15 (by decide) (fun c3 => ?_) (fun c3 => ?_)
  · replace h := pt_ip c3 h
    refine lv_iconst (v := -1) hx hb dX10_plain_27 (by decide) ?_
    exact pt_iret S hr hlk hP hS (pt_pr h).1 (congrArg (wR ca ad) (pt_pr h).2) dX10_plain_28
  · replace h := pt_iN c3 h
    refine lv_aload_n hx hb dX10_plain_18 rfl (lv_at hl 0 rfl) ?_
    refine gf_X10_11 S hiX10 hK hP hf36 dX10_plain_19 ?_
    refine lv_iload_n hx hb dX10_plain_22 rfl (lv_at hl 1 rfl) ?_
    replace h := pt_gd h; obtain ⟨g4, h⟩ := h
    refine ld_R_5 S hK hP g4 dX10_plain_23 ?_
    refine lv_goto (tgt := 28) hx hb dX10_plain_24 (by decide) ?_
    exact pt_iret S hr hlk hP hS (pt_pr h).1 (congrArg (wR ca ad) (pt_pr h).2) dX10_plain_28

def lp_X10_begin_47 (k : pt_St → Int32 → Option (Int32 × pt_St)) (a1 : Int32) : Nat → pt_St → Int32 → Option (Int32 × pt_St)
  | 0, _, _ => none
  | n + 1, σ, x2 =>
    if (6 : Int32) ≤ x2 then
    k σ x2
    else
    if pt_in x2 6 then
    pt_do (pt_put σ 8 x2.toNatClampNeg (0 : Int32)) fun σ48003 =>
    pt_do (pt_put σ48003 9 x2.toNatClampNeg (-1 : Int32)) fun σ48004 =>
    pt_do (pt_put σ48004 10 x2.toNatClampNeg (0 : Int32)) fun σ48005 =>
    pt_do (pt_put σ48005 11 x2.toNatClampNeg (0 : Int32)) fun σ48006 =>
    pt_do (pt_put σ48006 12 x2.toNatClampNeg (0 : Int32)) fun σ48007 =>
    pt_do (pt_put σ48007 13 x2.toNatClampNeg (vp_nar .boolean (0 : Int32))) fun σ48008 =>
    lp_X10_begin_47 k a1 n σ48008 (x2 + (1 : Int32))
    else none
def lp_X10_begin_103 (k : pt_St → Int32 → Option (Int32 × pt_St)) (a1 : Int32) : Nat → pt_St → Int32 → Option (Int32 × pt_St)
  | 0, _, _ => none
  | n + 1, σ, x2 =>
    if (40 : Int32) ≤ x2 then
    k σ x2
    else
    if pt_in x2 40 then
    pt_do (pt_put σ 14 x2.toNatClampNeg (vp_nar .boolean (0 : Int32))) fun σ104003 =>
    pt_do (pt_put σ104003 16 x2.toNatClampNeg (vp_nar .boolean (0 : Int32))) fun σ104004 =>
    lp_X10_begin_103 k a1 n σ104004 (x2 + (1 : Int32))
    else none
def kx_X10_begin_103 (a1 : Int32) (σ : pt_St) (x2 : Int32) : Option (Int32 × pt_St) :=
  pt_do (pt_put σ 0 23 (-1 : Int32)) fun σ104501 =>
  pt_do (pt_put σ104501 0 24 (0 : Int32)) fun σ104502 =>
  pt_do (pt_put σ104502 0 27 (0 : Int32)) fun σ104503 =>
  pt_do (pt_put σ104503 0 29 (0 : Int32)) fun σ104504 =>
  pt_do (pt_put σ104504 0 30 (0 : Int32)) fun σ104505 =>
  pt_do (pt_put σ104505 0 31 (σ104505 0 4)) fun σ104506 =>
  pt_do (pt_put σ104506 0 33 (0 : Int32)) fun σ104507 =>
  pt_do (pt_put σ104507 0 34 (-1 : Int32)) fun σ104508 =>
  pt_do (pt_put σ104508 0 35 (0 : Int32)) fun σ104509 =>
  pt_do (pt_put σ104509 0 36 (0 : Int32)) fun σ104510 =>
  pt_do (pt_put σ104510 0 37 (0 : Int32)) fun σ104511 =>
  some ((σ104511 0 16), σ104511)
def kx_X10_begin_47 (a1 : Int32) (σ : pt_St) (x2 : Int32) : Option (Int32 × pt_St) :=
  lp_X10_begin_103 (kx_X10_begin_103 a1) a1 pt_F σ (0 : Int32)
def f_X10_begin (σ : pt_St) (a1 : Int32) : Option (Int32 × pt_St) :=
  pt_b2 (f_X10_in σ a1 (1 : Int32) (6 : Int32)) fun r1 σ1 =>
  if r1 = (0 : Int32) then
  some ((-2 : Int32), σ1)
  else
  if (σ1 0 14) = (0 : Int32) then
  pt_b1 (f_X10_packAll σ1) fun σ4 =>
  pt_do (pt_put σ4 0 14 (1 : Int32)) fun σ5 =>
  pt_do (pt_put σ5 0 15 a1) fun σ6 =>
  pt_b2 (f_X10_many σ6) fun r7 σ7 =>
  pt_do (pt_put σ7 0 16 r7) fun σ8 =>
  lp_X10_begin_47 (kx_X10_begin_47 a1) a1 pt_F σ8 (0 : Int32)
  else
  some ((-3 : Int32), σ1)
set_option maxHeartbeats 4000000 in
set_option maxRecDepth 100000 in
theorem m_X10_begin (l : Launch) {D : va_G} {A : Nat → Prop} {ca : Nat → ClassId} {ad : Nat → Nat} {z : Nat × Nat} (hDa : ∀ σ, va_D A (wR ca ad σ)) {σ σ' : pt_St} {r : Int32} {a1 : Int32} (h : f_X10_begin σ a1 = some (r, σ')) : Met l yX10_begin wsX10_begin { frames := 4, cells := 0, slots := 0, locals := 93 } (va_Pc [.ref (ad 0), .int a1] (pt_Pre D (tysR ca) z A (wR ca ad σ))) (pt_Q (some (.int r)) D (wR ca ad σ') A) 0 0 A := by
  refine Met.ofW (cc := cX10_begin) (maxL := 3) (ret := (some .int)) (by decide) rfl ?_
  intro p e s m args below meth c s₁ B hml hv
  obtain ⟨rfl, hP, hK, hZ⟩ := hv
  have S : CallFix p m c cX10_begin 3 s ([.ref (ad 0), .int a1] : List Value).toArray wsX10_begin RX10 := ⟨B.exec, B.bytes, hml, findClass_of_methodNamed B.named, atoms_spec (ws := wsX10_begin) B.pre⟩
  have hx := S.1
  have hb := S.2.1
  have hr := B.returns
  have hlk := B.notSynchronized
  clear B
  have hiX10 : ∀ w ∈ wsX100, w ∈ wsX10_begin := fun w h => List.mem_cons_of_mem _ (List.mem_append_right _ h)
  have hf82 : (Cond.fieldLink RX10 82 "PackThreadsModel" "isBegun" "Z").before _ s = true := S.2.2.2.2 _ (List.mem_of_getElem? (i := 1) rfl)
  have hf118 : (Cond.fieldLink RX10 118 "PackThreadsModel" "threads" "I").before _ s = true := S.2.2.2.2 _ (List.mem_of_getElem? (i := 2) rfl)
  have hf121 : (Cond.fieldLink RX10 121 "PackThreadsModel" "blocks" "I").before _ s = true := S.2.2.2.2 _ (List.mem_of_getElem? (i := 3) rfl)
  have hf45 : (Cond.fieldLink RX10 45 "PackThreadsModel" "state" "[I").before _ s = true := S.2.2.2.2 _ (List.mem_of_getElem? (i := 4) rfl)
  have hf48 : (Cond.fieldLink RX10 48 "PackThreadsModel" "block" "[I").before _ s = true := S.2.2.2.2 _ (List.mem_of_getElem? (i := 5) rfl)
  have hf51 : (Cond.fieldLink RX10 51 "PackThreadsModel" "step" "[I").before _ s = true := S.2.2.2.2 _ (List.mem_of_getElem? (i := 6) rfl)
  have hf54 : (Cond.fieldLink RX10 54 "PackThreadsModel" "made" "[I").before _ s = true := S.2.2.2.2 _ (List.mem_of_getElem? (i := 7) rfl)
  have hf57 : (Cond.fieldLink RX10 57 "PackThreadsModel" "ended" "[I").before _ s = true := S.2.2.2.2 _ (List.mem_of_getElem? (i := 8) rfl)
  have hf60 : (Cond.fieldLink RX10 60 "PackThreadsModel" "isInterrupted" "[Z").before _ s = true := S.2.2.2.2 _ (List.mem_of_getElem? (i := 9) rfl)
  have hf63 : (Cond.fieldLink RX10 63 "PackThreadsModel" "hasFailed" "[Z").before _ s = true := S.2.2.2.2 _ (List.mem_of_getElem? (i := 10) rfl)
  have hf69 : (Cond.fieldLink RX10 69 "PackThreadsModel" "inRow" "[Z").before _ s = true := S.2.2.2.2 _ (List.mem_of_getElem? (i := 11) rfl)
  have hf124 : (Cond.fieldLink RX10 124 "PackThreadsModel" "latest" "I").before _ s = true := S.2.2.2.2 _ (List.mem_of_getElem? (i := 12) rfl)
  have hf127 : (Cond.fieldLink RX10 127 "PackThreadsModel" "never" "I").before _ s = true := S.2.2.2.2 _ (List.mem_of_getElem? (i := 13) rfl)
  have hf130 : (Cond.fieldLink RX10 130 "PackThreadsModel" "againMany" "I").before _ s = true := S.2.2.2.2 _ (List.mem_of_getElem? (i := 14) rfl)
  have hf133 : (Cond.fieldLink RX10 133 "PackThreadsModel" "rowMany" "I").before _ s = true := S.2.2.2.2 _ (List.mem_of_getElem? (i := 15) rfl)
  have hf136 : (Cond.fieldLink RX10 136 "PackThreadsModel" "joined" "I").before _ s = true := S.2.2.2.2 _ (List.mem_of_getElem? (i := 16) rfl)
  have hf20 : (Cond.fieldLink RX10 20 "PackThreadsModel" "cells" "I").before _ s = true := S.2.2.2.2 _ (List.mem_of_getElem? (i := 17) rfl)
  have hf139 : (Cond.fieldLink RX10 139 "PackThreadsModel" "left" "I").before _ s = true := S.2.2.2.2 _ (List.mem_of_getElem? (i := 18) rfl)
  have hf142 : (Cond.fieldLink RX10 142 "PackThreadsModel" "lineMany" "I").before _ s = true := S.2.2.2.2 _ (List.mem_of_getElem? (i := 19) rfl)
  have hf145 : (Cond.fieldLink RX10 145 "PackThreadsModel" "stopBlock" "I").before _ s = true := S.2.2.2.2 _ (List.mem_of_getElem? (i := 20) rfl)
  have hf148 : (Cond.fieldLink RX10 148 "PackThreadsModel" "stopKind" "I").before _ s = true := S.2.2.2.2 _ (List.mem_of_getElem? (i := 21) rfl)
  have hf151 : (Cond.fieldLink RX10 151 "PackThreadsModel" "failures" "I").before _ s = true := S.2.2.2.2 _ (List.mem_of_getElem? (i := 22) rfl)
  have hf154 : (Cond.fieldLink RX10 154 "PackThreadsModel" "turns" "I").before _ s = true := S.2.2.2.2 _ (List.mem_of_getElem? (i := 23) rfl)
  have hS : va_S A s.heap s.heap [] := va_S.rf
  have hl := lv_entry ([.ref (ad 0), .int a1]) (n := 3) (Nat.le_of_ble_eq_true rfl)
  rw [lg_entry_eq]
  generalize (lg_sl ([.ref (ad 0), .int a1]) ++ List.replicate (3 - (lg_sl ([.ref (ad 0), .int a1])).length) Slot.unset).toArray = ls at hl ⊢
  have hl : lv_has ls 3 [(0, .ref (ad 0)), (1, .int a1)] := hl
  unfold f_X10_begin at h
  refine lv_iload_n hx hb dX10_begin_0 rfl (lv_at hl 1 rfl) ?_
  refine lv_iconst (v := 1) hx hb dX10_begin_1 (by decide) ?_
  refine lv_bipush (v := 6) hx hb dX10_begin_2 (by decide) ?_
  replace h := pt_b2s h; obtain ⟨r1, σ1, e1, h⟩ := h
  refine pt_cSi (As := [.int a1, .int (1 : Int32), .int (6 : Int32)]) (rest := []) S (m_X10_in l hDa e1) (cwS 3 S.2.2.2.2 gX10_begin_X10_in rfl rfl rfl (by decide +kernel) ⟨Nat.le_of_ble_eq_true rfl, Nat.le_of_ble_eq_true rfl⟩) hK hP hS hZ rfl hl.1 rfl (Nat.le_of_ble_eq_true rfl) dX10_begin_4 ⟨Nat.zero_le _, Nat.zero_le _⟩ (fun H locs hP hS => ?_)
  refine lv_if_ne (tgt := 13) hx hb dX10_begin_7 (by decide) (fun c2 => ?_) (fun c2 => ?_)
  · replace h := pt_iN c2 h
    refine lv_aload_n hx hb dX10_begin_13 rfl (lv_at hl 0 rfl) ?_
    refine gf_X10_14 S hiX10 hK hP hf82 dX10_begin_14 ?_
    refine lv_if_eq (tgt := 23) hx hb dX10_begin_17 (by decide) (fun c3 => ?_) (fun c3 => ?_)
    · replace h := pt_ip c3 h
      refine lv_aload_n hx hb dX10_begin_23 rfl (lv_at hl 0 rfl) ?_
      replace h := pt_b1s h; obtain ⟨σ4, e4, h⟩ := h
      refine pt_cVv (As := []) (rest := []) S (m_X10_packAll l hDa e4) (cwV 0 S.2.2.2.2 gX10_begin_X10_packAll rfl rfl rfl (by decide +kernel) ⟨Nat.le_of_ble_eq_true rfl, Nat.le_of_ble_eq_true rfl⟩) hK hP hS hZ 0 10 rfl rfl rfl hl.1 rfl (Nat.le_of_ble_eq_true rfl) dX10_begin_24 ⟨Nat.zero_le _, Nat.zero_le _⟩ (fun H locs hP hS => ?_)
      refine lv_aload_n hx hb dX10_begin_27 rfl (lv_at hl 0 rfl) ?_
      refine lv_iconst (v := 1) hx hb dX10_begin_28 (by decide) ?_
      replace h := pt_dos h; obtain ⟨σ5, e5, h⟩ := h
      refine pf_X10_14 S hiX10 hK hP hDa hS hf82 (Or.inr rfl) e5 dX10_begin_29 (fun H locs hP hS => ?_)
      refine lv_aload_n hx hb dX10_begin_32 rfl (lv_at hl 0 rfl) ?_
      refine lv_iload_n hx hb dX10_begin_33 rfl (lv_at hl 1 rfl) ?_
      replace h := pt_dos h; obtain ⟨σ6, e6, h⟩ := h
      refine pf_X10_15 S hiX10 hK hP hDa hS hf118 e6 dX10_begin_34 (fun H locs hP hS => ?_)
      refine lv_aload_n hx hb dX10_begin_37 rfl (lv_at hl 0 rfl) ?_
      refine lv_aload_n hx hb dX10_begin_38 rfl (lv_at hl 0 rfl) ?_
      replace h := pt_b2s h; obtain ⟨r7, σ7, e7, h⟩ := h
      refine pt_cVi (As := []) (rest := [.ref (ad 0)]) S (m_X10_many l hDa e7) (cwV 0 S.2.2.2.2 gX10_begin_X10_many rfl rfl rfl (by decide +kernel) ⟨Nat.le_of_ble_eq_true rfl, Nat.le_of_ble_eq_true rfl⟩) hK hP hS hZ 0 10 rfl rfl rfl hl.1 rfl (Nat.le_of_ble_eq_true rfl) dX10_begin_39 ⟨Nat.zero_le _, Nat.zero_le _⟩ (fun H locs hP hS => ?_)
      replace h := pt_dos h; obtain ⟨σ8, e8, h⟩ := h
      refine pf_X10_16 S hiX10 hK hP hDa hS hf121 e8 dX10_begin_42 (fun H locs hP hS => ?_)
      refine lv_iconst (v := 0) hx hb dX10_begin_45 (by decide) ?_
      refine lv_istore_n (lv' := [(2, .int (0 : Int32)), (0, .ref (ad 0)), (1, .int a1)]) hx hb dX10_begin_46 rfl hl (by decide) rfl (fun ls hl => ?_)
      have X47 : ∀ (σ : pt_St) (x2 : Int32), kx_X10_begin_47 a1 σ x2 = some (r, σ') → ∀ (H : Heap) (locs : List Loc) (ls : Array Slot), va_P D vwCl (wR ca ad σ) H → va_S A s.heap H locs → lv_has ls 3 [(0, .ref (ad 0)), (1, .int a1), (2, .int x2)] → W p l e (headSpec wsX10_begin { frames := 4, cells := 0, slots := 0, locals := 93 }).room s m ([.ref (ad 0), .int a1] : List Value).toArray below meth c H locs 0 0 (MQ below (pt_Q (some (.int r)) D (wR ca ad σ') A) ([.ref (ad 0), .int a1] : List Value).toArray s 0 0 A) (F0 m 101 ls []) := by
        intro σ x2 h H locs ls hP hS hl
        unfold kx_X10_begin_47 at h
        refine lv_iconst (v := 0) hx hb dX10_begin_101 (by decide) ?_
        refine lv_istore_n (lv' := [(2, .int (0 : Int32)), (0, .ref (ad 0)), (1, .int a1)]) hx hb dX10_begin_102 rfl hl (by decide) rfl (fun ls hl => ?_)
        have X103 : ∀ (σ : pt_St) (x2 : Int32), kx_X10_begin_103 a1 σ x2 = some (r, σ') → ∀ (H : Heap) (locs : List Loc) (ls : Array Slot), va_P D vwCl (wR ca ad σ) H → va_S A s.heap H locs → lv_has ls 3 [(0, .ref (ad 0)), (1, .int a1), (2, .int x2)] → W p l e (headSpec wsX10_begin { frames := 4, cells := 0, slots := 0, locals := 93 }).room s m ([.ref (ad 0), .int a1] : List Value).toArray below meth c H locs 0 0 (MQ below (pt_Q (some (.int r)) D (wR ca ad σ') A) ([.ref (ad 0), .int a1] : List Value).toArray s 0 0 A) (F0 m 129 ls []) := by
          intro σ x2 h H locs ls hP hS hl
          unfold kx_X10_begin_103 at h
          refine lv_aload_n hx hb dX10_begin_129 rfl (lv_at hl 0 rfl) ?_
          refine lv_iconst (v := -1) hx hb dX10_begin_130 (by decide) ?_
          replace h := pt_dos h; obtain ⟨σ104501, e104501, h⟩ := h
          refine pf_X10_23 S hiX10 hK hP hDa hS hf124 e104501 dX10_begin_131 (fun H locs hP hS => ?_)
          refine lv_aload_n hx hb dX10_begin_134 rfl (lv_at hl 0 rfl) ?_
          refine lv_iconst (v := 0) hx hb dX10_begin_135 (by decide) ?_
          replace h := pt_dos h; obtain ⟨σ104502, e104502, h⟩ := h
          refine pf_X10_24 S hiX10 hK hP hDa hS hf127 e104502 dX10_begin_136 (fun H locs hP hS => ?_)
          refine lv_aload_n hx hb dX10_begin_139 rfl (lv_at hl 0 rfl) ?_
          refine lv_iconst (v := 0) hx hb dX10_begin_140 (by decide) ?_
          replace h := pt_dos h; obtain ⟨σ104503, e104503, h⟩ := h
          refine pf_X10_27 S hiX10 hK hP hDa hS hf130 e104503 dX10_begin_141 (fun H locs hP hS => ?_)
          refine lv_aload_n hx hb dX10_begin_144 rfl (lv_at hl 0 rfl) ?_
          refine lv_iconst (v := 0) hx hb dX10_begin_145 (by decide) ?_
          replace h := pt_dos h; obtain ⟨σ104504, e104504, h⟩ := h
          refine pf_X10_29 S hiX10 hK hP hDa hS hf133 e104504 dX10_begin_146 (fun H locs hP hS => ?_)
          refine lv_aload_n hx hb dX10_begin_149 rfl (lv_at hl 0 rfl) ?_
          refine lv_iconst (v := 0) hx hb dX10_begin_150 (by decide) ?_
          replace h := pt_dos h; obtain ⟨σ104505, e104505, h⟩ := h
          refine pf_X10_30 S hiX10 hK hP hDa hS hf136 e104505 dX10_begin_151 (fun H locs hP hS => ?_)
          refine lv_aload_n hx hb dX10_begin_154 rfl (lv_at hl 0 rfl) ?_
          refine lv_aload_n hx hb dX10_begin_155 rfl (lv_at hl 0 rfl) ?_
          refine gf_X10_4 S hiX10 hK hP hf20 dX10_begin_156 ?_
          replace h := pt_dos h; obtain ⟨σ104506, e104506, h⟩ := h
          refine pf_X10_31 S hiX10 hK hP hDa hS hf139 e104506 dX10_begin_159 (fun H locs hP hS => ?_)
          refine lv_aload_n hx hb dX10_begin_162 rfl (lv_at hl 0 rfl) ?_
          refine lv_iconst (v := 0) hx hb dX10_begin_163 (by decide) ?_
          replace h := pt_dos h; obtain ⟨σ104507, e104507, h⟩ := h
          refine pf_X10_33 S hiX10 hK hP hDa hS hf142 e104507 dX10_begin_164 (fun H locs hP hS => ?_)
          refine lv_aload_n hx hb dX10_begin_167 rfl (lv_at hl 0 rfl) ?_
          refine lv_iconst (v := -1) hx hb dX10_begin_168 (by decide) ?_
          replace h := pt_dos h; obtain ⟨σ104508, e104508, h⟩ := h
          refine pf_X10_34 S hiX10 hK hP hDa hS hf145 e104508 dX10_begin_169 (fun H locs hP hS => ?_)
          refine lv_aload_n hx hb dX10_begin_172 rfl (lv_at hl 0 rfl) ?_
          refine lv_iconst (v := 0) hx hb dX10_begin_173 (by decide) ?_
          replace h := pt_dos h; obtain ⟨σ104509, e104509, h⟩ := h
          refine pf_X10_35 S hiX10 hK hP hDa hS hf148 e104509 dX10_begin_174 (fun H locs hP hS => ?_)
          refine lv_aload_n hx hb dX10_begin_177 rfl (lv_at hl 0 rfl) ?_
          refine lv_iconst (v := 0) hx hb dX10_begin_178 (by decide) ?_
          replace h := pt_dos h; obtain ⟨σ104510, e104510, h⟩ := h
          refine pf_X10_36 S hiX10 hK hP hDa hS hf151 e104510 dX10_begin_179 (fun H locs hP hS => ?_)
          refine lv_aload_n hx hb dX10_begin_182 rfl (lv_at hl 0 rfl) ?_
          refine lv_iconst (v := 0) hx hb dX10_begin_183 (by decide) ?_
          replace h := pt_dos h; obtain ⟨σ104511, e104511, h⟩ := h
          refine pf_X10_37 S hiX10 hK hP hDa hS hf154 e104511 dX10_begin_184 (fun H locs hP hS => ?_)
          refine lv_aload_n hx hb dX10_begin_187 rfl (lv_at hl 0 rfl) ?_
          refine gf_X10_16 S hiX10 hK hP hf121 dX10_begin_188 ?_
          exact pt_iret S hr hlk hP hS (pt_pr h).1 (congrArg (wR ca ad) (pt_pr h).2) dX10_begin_191
        have L103 : ∀ (n : Nat) (σ : pt_St) (x2 : Int32),  lp_X10_begin_103 (kx_X10_begin_103 a1) a1 n σ x2 = some (r, σ') → ∀ (H : Heap) (locs : List Loc) (ls : Array Slot), va_P D vwCl (wR ca ad σ) H → va_S A s.heap H locs → lv_has ls 3 [(0, .ref (ad 0)), (1, .int a1), (2, .int x2)] → W p l e (headSpec wsX10_begin { frames := 4, cells := 0, slots := 0, locals := 93 }).room s m ([.ref (ad 0), .int a1] : List Value).toArray below meth c H locs 0 0 (MQ below (pt_Q (some (.int r)) D (wR ca ad σ') A) ([.ref (ad 0), .int a1] : List Value).toArray s 0 0 A) (F0 m 103 ls []) := by
          intro n
          induction n with
          | zero => intro σ x2 h; cases h
          | succ n ih0 =>
            intro σ x2 h H locs ls hP hS hl
            rw [lp_X10_begin_103] at h
            refine lv_iload_n hx hb dX10_begin_103 rfl (lv_at hl 2 rfl) ?_
            refine lv_bipush (v := 40) hx hb dX10_begin_104 (by decide) ?_
            refine lv_icmp_ge (tgt := 129) hx hb dX10_begin_106 (by decide) (fun c104001 => ?_) (fun c104001 => ?_)
            · replace h := pt_ip c104001 h
              exact X103 _ _ h _ _ _ hP hS (lv_sub hl [0, 1, 2] rfl)
            · replace h := pt_iN c104001 h
              refine lv_aload_n hx hb dX10_begin_109 rfl (lv_at hl 0 rfl) ?_
              refine gf_X10_25 S hiX10 hK hP hf63 dX10_begin_110 ?_
              refine lv_iload_n hx hb dX10_begin_113 rfl (lv_at hl 2 rfl) ?_
              refine lv_iconst (v := 0) hx hb dX10_begin_114 (by decide) ?_
              replace h := pt_gd h; obtain ⟨g104002, h⟩ := h
              replace h := pt_dos h; obtain ⟨σ104003, e104003, h⟩ := h
              refine st_R_14 S hK hP hDa hS g104002 e104003 dX10_begin_115 (fun H locs hP hS => ?_)
              refine lv_aload_n hx hb dX10_begin_116 rfl (lv_at hl 0 rfl) ?_
              refine gf_X10_28 S hiX10 hK hP hf69 dX10_begin_117 ?_
              refine lv_iload_n hx hb dX10_begin_120 rfl (lv_at hl 2 rfl) ?_
              refine lv_iconst (v := 0) hx hb dX10_begin_121 (by decide) ?_
              replace h := pt_dos h; obtain ⟨σ104004, e104004, h⟩ := h
              refine st_R_16 S hK hP hDa hS g104002 e104004 dX10_begin_122 (fun H locs hP hS => ?_)
              refine lv_iinc (v := x2 + (1 : Int32)) (lv' := [(2, .int (x2 + (1 : Int32))), (0, .ref (ad 0)), (1, .int a1)]) hx hb dX10_begin_123 hl (k := 2) rfl rfl (by decide) rfl (fun ls hl => ?_)
              refine lv_goto (tgt := 103) hx hb dX10_begin_126 (by decide) ?_
              exact ih0 _ _ h _ _ _ hP hS (lv_sub hl [1, 2, 0] rfl)
        exact L103 _ _ _ h _ _ _ hP hS (lv_sub hl [1, 2, 0] rfl)
      have L47 : ∀ (n : Nat) (σ : pt_St) (x2 : Int32),  lp_X10_begin_47 (kx_X10_begin_47 a1) a1 n σ x2 = some (r, σ') → ∀ (H : Heap) (locs : List Loc) (ls : Array Slot), va_P D vwCl (wR ca ad σ) H → va_S A s.heap H locs → lv_has ls 3 [(0, .ref (ad 0)), (1, .int a1), (2, .int x2)] → W p l e (headSpec wsX10_begin { frames := 4, cells := 0, slots := 0, locals := 93 }).room s m ([.ref (ad 0), .int a1] : List Value).toArray below meth c H locs 0 0 (MQ below (pt_Q (some (.int r)) D (wR ca ad σ') A) ([.ref (ad 0), .int a1] : List Value).toArray s 0 0 A) (F0 m 47 ls []) := by
        intro n
        induction n with
        | zero => intro σ x2 h; cases h
        | succ n ih0 =>
          intro σ x2 h H locs ls hP hS hl
          rw [lp_X10_begin_47] at h
          refine lv_iload_n hx hb dX10_begin_47 rfl (lv_at hl 2 rfl) ?_
          refine lv_bipush (v := 6) hx hb dX10_begin_48 (by decide) ?_
          refine lv_icmp_ge (tgt := 101) hx hb dX10_begin_50 (by decide) (fun c48001 => ?_) (fun c48001 => ?_)
          · replace h := pt_ip c48001 h
            exact X47 _ _ h _ _ _ hP hS (lv_sub hl [0, 1, 2] rfl)
          · replace h := pt_iN c48001 h
            refine lv_aload_n hx hb dX10_begin_53 rfl (lv_at hl 0 rfl) ?_
            refine gf_X10_17 S hiX10 hK hP hf45 dX10_begin_54 ?_
            refine lv_iload_n hx hb dX10_begin_57 rfl (lv_at hl 2 rfl) ?_
            refine lv_iconst (v := 0) hx hb dX10_begin_58 (by decide) ?_
            replace h := pt_gd h; obtain ⟨g48002, h⟩ := h
            replace h := pt_dos h; obtain ⟨σ48003, e48003, h⟩ := h
            refine st_R_8 S hK hP hDa hS g48002 e48003 dX10_begin_59 (fun H locs hP hS => ?_)
            refine lv_aload_n hx hb dX10_begin_60 rfl (lv_at hl 0 rfl) ?_
            refine gf_X10_18 S hiX10 hK hP hf48 dX10_begin_61 ?_
            refine lv_iload_n hx hb dX10_begin_64 rfl (lv_at hl 2 rfl) ?_
            refine lv_iconst (v := -1) hx hb dX10_begin_65 (by decide) ?_
            replace h := pt_dos h; obtain ⟨σ48004, e48004, h⟩ := h
            refine st_R_9 S hK hP hDa hS g48002 e48004 dX10_begin_66 (fun H locs hP hS => ?_)
            refine lv_aload_n hx hb dX10_begin_67 rfl (lv_at hl 0 rfl) ?_
            refine gf_X10_19 S hiX10 hK hP hf51 dX10_begin_68 ?_
            refine lv_iload_n hx hb dX10_begin_71 rfl (lv_at hl 2 rfl) ?_
            refine lv_iconst (v := 0) hx hb dX10_begin_72 (by decide) ?_
            replace h := pt_dos h; obtain ⟨σ48005, e48005, h⟩ := h
            refine st_R_10 S hK hP hDa hS g48002 e48005 dX10_begin_73 (fun H locs hP hS => ?_)
            refine lv_aload_n hx hb dX10_begin_74 rfl (lv_at hl 0 rfl) ?_
            refine gf_X10_20 S hiX10 hK hP hf54 dX10_begin_75 ?_
            refine lv_iload_n hx hb dX10_begin_78 rfl (lv_at hl 2 rfl) ?_
            refine lv_iconst (v := 0) hx hb dX10_begin_79 (by decide) ?_
            replace h := pt_dos h; obtain ⟨σ48006, e48006, h⟩ := h
            refine st_R_11 S hK hP hDa hS g48002 e48006 dX10_begin_80 (fun H locs hP hS => ?_)
            refine lv_aload_n hx hb dX10_begin_81 rfl (lv_at hl 0 rfl) ?_
            refine gf_X10_21 S hiX10 hK hP hf57 dX10_begin_82 ?_
            refine lv_iload_n hx hb dX10_begin_85 rfl (lv_at hl 2 rfl) ?_
            refine lv_iconst (v := 0) hx hb dX10_begin_86 (by decide) ?_
            replace h := pt_dos h; obtain ⟨σ48007, e48007, h⟩ := h
            refine st_R_12 S hK hP hDa hS g48002 e48007 dX10_begin_87 (fun H locs hP hS => ?_)
            refine lv_aload_n hx hb dX10_begin_88 rfl (lv_at hl 0 rfl) ?_
            refine gf_X10_22 S hiX10 hK hP hf60 dX10_begin_89 ?_
            refine lv_iload_n hx hb dX10_begin_92 rfl (lv_at hl 2 rfl) ?_
            refine lv_iconst (v := 0) hx hb dX10_begin_93 (by decide) ?_
            replace h := pt_dos h; obtain ⟨σ48008, e48008, h⟩ := h
            refine st_R_13 S hK hP hDa hS g48002 e48008 dX10_begin_94 (fun H locs hP hS => ?_)
            refine lv_iinc (v := x2 + (1 : Int32)) (lv' := [(2, .int (x2 + (1 : Int32))), (0, .ref (ad 0)), (1, .int a1)]) hx hb dX10_begin_95 hl (k := 2) rfl rfl (by decide) rfl (fun ls hl => ?_)
            refine lv_goto (tgt := 47) hx hb dX10_begin_98 (by decide) ?_
            exact ih0 _ _ h _ _ _ hP hS (lv_sub hl [1, 2, 0] rfl)
      exact L47 _ _ _ h _ _ _ hP hS (lv_sub hl [1, 2, 0] rfl)
    · replace h := pt_iN c3 h
      refine lv_bipush (v := -3) hx hb dX10_begin_20 (by decide) ?_
      exact pt_iret S hr hlk hP hS (pt_pr h).1 (congrArg (wR ca ad) (pt_pr h).2) dX10_begin_22
  · replace h := pt_ip c2 h
    refine lv_bipush (v := -2) hx hb dX10_begin_10 (by decide) ?_
    exact pt_iret S hr hlk hP hS (pt_pr h).1 (congrArg (wR ca ad) (pt_pr h).2) dX10_begin_12

def f_X10_isStopped (σ : pt_St) : Option (Int32 × pt_St) :=
  if (σ 0 35) ≤ (0 : Int32) then
  some ((0 : Int32), σ)
  else
  some ((1 : Int32), σ)
set_option maxHeartbeats 4000000 in
set_option maxRecDepth 100000 in
theorem m_X10_isStopped (l : Launch) {D : va_G} {A : Nat → Prop} {ca : Nat → ClassId} {ad : Nat → Nat} {z : Nat × Nat} (hDa : ∀ σ, va_D A (wR ca ad σ)) {σ σ' : pt_St} {r : Int32} (h : f_X10_isStopped σ = some (r, σ')) : Met l yX10_isStopped wsX10_isStopped { frames := 0, cells := 0, slots := 0, locals := 0 } (va_Pc [.ref (ad 0)] (pt_Pre D (tysR ca) z A (wR ca ad σ))) (pt_Q (some (.int r)) D (wR ca ad σ') A) 0 0 A := by
  refine Met.ofW (cc := cX10_isStopped) (maxL := 1) (ret := (some .boolean)) (by decide) rfl ?_
  intro p e s m args below meth c s₁ B hml hv
  obtain ⟨rfl, hP, hK, hZ⟩ := hv
  have S : CallFix p m c cX10_isStopped 1 s ([.ref (ad 0)] : List Value).toArray wsX10_isStopped RX10 := ⟨B.exec, B.bytes, hml, findClass_of_methodNamed B.named, atoms_spec (ws := wsX10_isStopped) B.pre⟩
  have hx := S.1
  have hb := S.2.1
  have hr := B.returns
  have hlk := B.notSynchronized
  clear B
  have hiX10 : ∀ w ∈ wsX100, w ∈ wsX10_isStopped := fun w h => List.mem_cons_of_mem _ (List.mem_append_right _ h)
  have hf148 : (Cond.fieldLink RX10 148 "PackThreadsModel" "stopKind" "I").before _ s = true := S.2.2.2.2 _ (List.mem_of_getElem? (i := 1) rfl)
  have hS : va_S A s.heap s.heap [] := va_S.rf
  have hl := lv_entry ([.ref (ad 0)]) (n := 1) (Nat.le_of_ble_eq_true rfl)
  rw [lg_entry_eq]
  generalize (lg_sl ([.ref (ad 0)]) ++ List.replicate (1 - (lg_sl ([.ref (ad 0)])).length) Slot.unset).toArray = ls at hl ⊢
  have hl : lv_has ls 1 [(0, .ref (ad 0))] := hl
  unfold f_X10_isStopped at h
  refine lv_aload_n hx hb dX10_isStopped_0 rfl (lv_at hl 0 rfl) ?_
  refine gf_X10_35 S hiX10 hK hP hf148 dX10_isStopped_1 ?_
  refine lv_if_le (tgt := 11) hx hb dX10_isStopped_4 (by decide) (fun c1 => ?_) (fun c1 => ?_)
  · replace h := pt_ip c1 h
    refine lv_iconst (v := 0) hx hb dX10_isStopped_11 (by decide) ?_
    exact pt_zret S hr hlk hP hS (Or.inl rfl) (pt_pr h).1 (congrArg (wR ca ad) (pt_pr h).2) dX10_isStopped_12
  · replace h := pt_iN c1 h
    refine lv_iconst (v := 1) hx hb dX10_isStopped_7 (by decide) ?_
    refine lv_goto (tgt := 12) hx hb dX10_isStopped_8 (by decide) ?_
    exact pt_zret S hr hlk hP hS (Or.inr rfl) (pt_pr h).1 (congrArg (wR ca ad) (pt_pr h).2) dX10_isStopped_12

def f_X10_ends (σ : pt_St) (a1 : Int32) : Option pt_St :=
  if pt_in a1 6 then
  pt_do (pt_put σ 8 a1.toNatClampNeg (4 : Int32)) fun σ2 =>
  pt_do (pt_put σ2 9 a1.toNatClampNeg (-1 : Int32)) fun σ3 =>
  pt_do (pt_put σ3 12 a1.toNatClampNeg ((σ3 12 a1.toNatClampNeg) + (1 : Int32))) fun σ4 =>
  some σ4
  else none
set_option maxHeartbeats 4000000 in
set_option maxRecDepth 100000 in
theorem m_X10_ends (l : Launch) {D : va_G} {A : Nat → Prop} {ca : Nat → ClassId} {ad : Nat → Nat} {z : Nat × Nat} (hDa : ∀ σ, va_D A (wR ca ad σ)) {σ σ' : pt_St} {a1 : Int32} (h : f_X10_ends σ a1 = some σ') : Met l yX10_ends wsX10_ends { frames := 0, cells := 0, slots := 0, locals := 0 } (va_Pc [.ref (ad 0), .int a1] (pt_Pre D (tysR ca) z A (wR ca ad σ))) (pt_Q none D (wR ca ad σ') A) 0 0 A := by
  refine Met.ofW (cc := cX10_ends) (maxL := 2) (ret := none) (by decide) rfl ?_
  intro p e s m args below meth c s₁ B hml hv
  obtain ⟨rfl, hP, hK, hZ⟩ := hv
  have S : CallFix p m c cX10_ends 2 s ([.ref (ad 0), .int a1] : List Value).toArray wsX10_ends RX10 := ⟨B.exec, B.bytes, hml, findClass_of_methodNamed B.named, atoms_spec (ws := wsX10_ends) B.pre⟩
  have hx := S.1
  have hb := S.2.1
  have hr := B.returns
  have hlk := B.notSynchronized
  clear B
  have hiX10 : ∀ w ∈ wsX100, w ∈ wsX10_ends := fun w h => List.mem_cons_of_mem _ (List.mem_append_right _ h)
  have hf45 : (Cond.fieldLink RX10 45 "PackThreadsModel" "state" "[I").before _ s = true := S.2.2.2.2 _ (List.mem_of_getElem? (i := 1) rfl)
  have hf48 : (Cond.fieldLink RX10 48 "PackThreadsModel" "block" "[I").before _ s = true := S.2.2.2.2 _ (List.mem_of_getElem? (i := 2) rfl)
  have hf57 : (Cond.fieldLink RX10 57 "PackThreadsModel" "ended" "[I").before _ s = true := S.2.2.2.2 _ (List.mem_of_getElem? (i := 3) rfl)
  have hS : va_S A s.heap s.heap [] := va_S.rf
  have hl := lv_entry ([.ref (ad 0), .int a1]) (n := 2) (Nat.le_of_ble_eq_true rfl)
  rw [lg_entry_eq]
  generalize (lg_sl ([.ref (ad 0), .int a1]) ++ List.replicate (2 - (lg_sl ([.ref (ad 0), .int a1])).length) Slot.unset).toArray = ls at hl ⊢
  have hl : lv_has ls 2 [(0, .ref (ad 0)), (1, .int a1)] := hl
  unfold f_X10_ends at h
  refine lv_aload_n hx hb dX10_ends_0 rfl (lv_at hl 0 rfl) ?_
  refine gf_X10_17 S hiX10 hK hP hf45 dX10_ends_1 ?_
  refine lv_iload_n hx hb dX10_ends_4 rfl (lv_at hl 1 rfl) ?_
  refine lv_iconst (v := 4) hx hb dX10_ends_5 (by decide) ?_
  replace h := pt_gd h; obtain ⟨g1, h⟩ := h
  replace h := pt_dos h; obtain ⟨σ2, e2, h⟩ := h
  refine st_R_8 S hK hP hDa hS g1 e2 dX10_ends_6 (fun H locs hP hS => ?_)
  refine lv_aload_n hx hb dX10_ends_7 rfl (lv_at hl 0 rfl) ?_
  refine gf_X10_18 S hiX10 hK hP hf48 dX10_ends_8 ?_
  refine lv_iload_n hx hb dX10_ends_11 rfl (lv_at hl 1 rfl) ?_
  refine lv_iconst (v := -1) hx hb dX10_ends_12 (by decide) ?_
  replace h := pt_dos h; obtain ⟨σ3, e3, h⟩ := h
  refine st_R_9 S hK hP hDa hS g1 e3 dX10_ends_13 (fun H locs hP hS => ?_)
  refine lv_aload_n hx hb dX10_ends_14 rfl (lv_at hl 0 rfl) ?_
  refine gf_X10_21 S hiX10 hK hP hf57 dX10_ends_15 ?_
  refine lv_iload_n hx hb dX10_ends_18 rfl (lv_at hl 1 rfl) ?_
  refine lv_dup2_11 hx hb dX10_ends_19 rfl rfl ?_
  refine ld_R_12 S hK hP g1 dX10_ends_20 ?_
  refine lv_iconst (v := 1) hx hb dX10_ends_21 (by decide) ?_
  refine lv_iadd hx hb dX10_ends_22 ?_
  replace h := pt_dos h; obtain ⟨σ4, e4, h⟩ := h
  refine st_R_12 S hK hP hDa hS g1 e4 dX10_ends_23 (fun H locs hP hS => ?_)
  exact pt_vret S hr hlk hP hS (congrArg (wR ca ad) (pt_so h)) dX10_ends_24

def f_X10_works (σ : pt_St) (a1 : Int32) : Option pt_St :=
  if pt_in a1 6 then
  pt_b2 (f_X10_lengthOf σ (σ 9 a1.toNatClampNeg)) fun r2 σ2 =>
  pt_do (pt_put σ2 0 31 ((σ 0 31) - r2)) fun σ3 =>
  pt_do (pt_put σ3 8 a1.toNatClampNeg (2 : Int32)) fun σ4 =>
  pt_do (pt_put σ4 10 a1.toNatClampNeg (0 : Int32)) fun σ5 =>
  some σ5
  else none
set_option maxHeartbeats 4000000 in
set_option maxRecDepth 100000 in
theorem m_X10_works (l : Launch) {D : va_G} {A : Nat → Prop} {ca : Nat → ClassId} {ad : Nat → Nat} {z : Nat × Nat} (hDa : ∀ σ, va_D A (wR ca ad σ)) {σ σ' : pt_St} {a1 : Int32} (h : f_X10_works σ a1 = some σ') : Met l yX10_works wsX10_works { frames := 1, cells := 0, slots := 0, locals := 22 } (va_Pc [.ref (ad 0), .int a1] (pt_Pre D (tysR ca) z A (wR ca ad σ))) (pt_Q none D (wR ca ad σ') A) 0 0 A := by
  refine Met.ofW (cc := cX10_works) (maxL := 2) (ret := none) (by decide) rfl ?_
  intro p e s m args below meth c s₁ B hml hv
  obtain ⟨rfl, hP, hK, hZ⟩ := hv
  have S : CallFix p m c cX10_works 2 s ([.ref (ad 0), .int a1] : List Value).toArray wsX10_works RX10 := ⟨B.exec, B.bytes, hml, findClass_of_methodNamed B.named, atoms_spec (ws := wsX10_works) B.pre⟩
  have hx := S.1
  have hb := S.2.1
  have hr := B.returns
  have hlk := B.notSynchronized
  clear B
  have hiX10 : ∀ w ∈ wsX100, w ∈ wsX10_works := fun w h => List.mem_cons_of_mem _ (List.mem_append_right _ h)
  have hf139 : (Cond.fieldLink RX10 139 "PackThreadsModel" "left" "I").before _ s = true := S.2.2.2.2 _ (List.mem_of_getElem? (i := 1) rfl)
  have hf48 : (Cond.fieldLink RX10 48 "PackThreadsModel" "block" "[I").before _ s = true := S.2.2.2.2 _ (List.mem_of_getElem? (i := 2) rfl)
  have hf45 : (Cond.fieldLink RX10 45 "PackThreadsModel" "state" "[I").before _ s = true := S.2.2.2.2 _ (List.mem_of_getElem? (i := 3) rfl)
  have hf51 : (Cond.fieldLink RX10 51 "PackThreadsModel" "step" "[I").before _ s = true := S.2.2.2.2 _ (List.mem_of_getElem? (i := 4) rfl)
  have hS : va_S A s.heap s.heap [] := va_S.rf
  have hl := lv_entry ([.ref (ad 0), .int a1]) (n := 2) (Nat.le_of_ble_eq_true rfl)
  rw [lg_entry_eq]
  generalize (lg_sl ([.ref (ad 0), .int a1]) ++ List.replicate (2 - (lg_sl ([.ref (ad 0), .int a1])).length) Slot.unset).toArray = ls at hl ⊢
  have hl : lv_has ls 2 [(0, .ref (ad 0)), (1, .int a1)] := hl
  unfold f_X10_works at h
  refine lv_aload_n hx hb dX10_works_0 rfl (lv_at hl 0 rfl) ?_
  refine lv_dup hx hb dX10_works_1 rfl ?_
  refine gf_X10_31 S hiX10 hK hP hf139 dX10_works_2 ?_
  refine lv_aload_n hx hb dX10_works_5 rfl (lv_at hl 0 rfl) ?_
  refine lv_aload_n hx hb dX10_works_6 rfl (lv_at hl 0 rfl) ?_
  refine gf_X10_18 S hiX10 hK hP hf48 dX10_works_7 ?_
  refine lv_iload_n hx hb dX10_works_10 rfl (lv_at hl 1 rfl) ?_
  replace h := pt_gd h; obtain ⟨g1, h⟩ := h
  refine ld_R_9 S hK hP g1 dX10_works_11 ?_
  replace h := pt_b2s h; obtain ⟨r2, σ2, e2, h⟩ := h
  refine pt_cVi (As := [.int (σ 9 a1.toNatClampNeg)]) (rest := [.int (σ 0 31), .ref (ad 0)]) S (m_X10_lengthOf l hDa e2) (cwV 1 S.2.2.2.2 gX10_works_X10_lengthOf rfl rfl rfl (by decide +kernel) ⟨Nat.le_of_ble_eq_true rfl, Nat.le_of_ble_eq_true rfl⟩) hK hP hS hZ 0 10 rfl rfl rfl hl.1 rfl (Nat.le_of_ble_eq_true rfl) dX10_works_12 ⟨Nat.zero_le _, Nat.zero_le _⟩ (fun H locs hP hS => ?_)
  refine lv_isub hx hb dX10_works_15 ?_
  replace h := pt_dos h; obtain ⟨σ3, e3, h⟩ := h
  refine pf_X10_31 S hiX10 hK hP hDa hS hf139 e3 dX10_works_16 (fun H locs hP hS => ?_)
  refine lv_aload_n hx hb dX10_works_19 rfl (lv_at hl 0 rfl) ?_
  refine gf_X10_17 S hiX10 hK hP hf45 dX10_works_20 ?_
  refine lv_iload_n hx hb dX10_works_23 rfl (lv_at hl 1 rfl) ?_
  refine lv_iconst (v := 2) hx hb dX10_works_24 (by decide) ?_
  replace h := pt_dos h; obtain ⟨σ4, e4, h⟩ := h
  refine st_R_8 S hK hP hDa hS g1 e4 dX10_works_25 (fun H locs hP hS => ?_)
  refine lv_aload_n hx hb dX10_works_26 rfl (lv_at hl 0 rfl) ?_
  refine gf_X10_19 S hiX10 hK hP hf51 dX10_works_27 ?_
  refine lv_iload_n hx hb dX10_works_30 rfl (lv_at hl 1 rfl) ?_
  refine lv_iconst (v := 0) hx hb dX10_works_31 (by decide) ?_
  replace h := pt_dos h; obtain ⟨σ5, e5, h⟩ := h
  refine st_R_10 S hK hP hDa hS g1 e5 dX10_works_32 (fun H locs hP hS => ?_)
  exact pt_vret S hr hlk hP hS (congrArg (wR ca ad) (pt_so h)) dX10_works_33

def f_X10_takes (σ : pt_St) (a1 : Int32) (a2 : Int32) : Option pt_St :=
  if pt_in a1 6 then
  pt_do (pt_put σ 9 a1.toNatClampNeg a2) fun σ2 =>
  if (σ2 0 33) = (0 : Int32) then
  pt_b2 (f_X10_lengthOf σ2 a2) fun r4 σ4 =>
  if (σ2 0 31) < r4 then
  pt_do (pt_put σ4 8 a1.toNatClampNeg (1 : Int32)) fun σ6 =>
  if pt_in (σ6 0 33) 6 then
  pt_do (pt_put σ6 17 (σ6 0 33).toNatClampNeg a1) fun σ8 =>
  pt_do (pt_put σ8 0 33 ((σ8 0 33) + (1 : Int32))) fun σ9 =>
  some σ9
  else none
  else
  pt_b1 (f_X10_works σ4 a1) fun σ10 =>
  some σ10
  else
  pt_do (pt_put σ2 8 a1.toNatClampNeg (1 : Int32)) fun σ11 =>
  if pt_in (σ11 0 33) 6 then
  pt_do (pt_put σ11 17 (σ11 0 33).toNatClampNeg a1) fun σ13 =>
  pt_do (pt_put σ13 0 33 ((σ13 0 33) + (1 : Int32))) fun σ14 =>
  some σ14
  else none
  else none
set_option maxHeartbeats 4000000 in
set_option maxRecDepth 100000 in
theorem m_X10_takes (l : Launch) {D : va_G} {A : Nat → Prop} {ca : Nat → ClassId} {ad : Nat → Nat} {z : Nat × Nat} (hDa : ∀ σ, va_D A (wR ca ad σ)) {σ σ' : pt_St} {a1 : Int32} {a2 : Int32} (h : f_X10_takes σ a1 a2 = some σ') : Met l yX10_takes wsX10_takes { frames := 2, cells := 0, slots := 0, locals := 43 } (va_Pc [.ref (ad 0), .int a1, .int a2] (pt_Pre D (tysR ca) z A (wR ca ad σ))) (pt_Q none D (wR ca ad σ') A) 0 0 A := by
  refine Met.ofW (cc := cX10_takes) (maxL := 3) (ret := none) (by decide) rfl ?_
  intro p e s m args below meth c s₁ B hml hv
  obtain ⟨rfl, hP, hK, hZ⟩ := hv
  have S : CallFix p m c cX10_takes 3 s ([.ref (ad 0), .int a1, .int a2] : List Value).toArray wsX10_takes RX10 := ⟨B.exec, B.bytes, hml, findClass_of_methodNamed B.named, atoms_spec (ws := wsX10_takes) B.pre⟩
  have hx := S.1
  have hb := S.2.1
  have hr := B.returns
  have hlk := B.notSynchronized
  clear B
  have hiX10 : ∀ w ∈ wsX100, w ∈ wsX10_takes := fun w h => List.mem_cons_of_mem _ (List.mem_append_right _ h)
  have hf48 : (Cond.fieldLink RX10 48 "PackThreadsModel" "block" "[I").before _ s = true := S.2.2.2.2 _ (List.mem_of_getElem? (i := 1) rfl)
  have hf142 : (Cond.fieldLink RX10 142 "PackThreadsModel" "lineMany" "I").before _ s = true := S.2.2.2.2 _ (List.mem_of_getElem? (i := 2) rfl)
  have hf139 : (Cond.fieldLink RX10 139 "PackThreadsModel" "left" "I").before _ s = true := S.2.2.2.2 _ (List.mem_of_getElem? (i := 3) rfl)
  have hf45 : (Cond.fieldLink RX10 45 "PackThreadsModel" "state" "[I").before _ s = true := S.2.2.2.2 _ (List.mem_of_getElem? (i := 4) rfl)
  have hf72 : (Cond.fieldLink RX10 72 "PackThreadsModel" "line" "[I").before _ s = true := S.2.2.2.2 _ (List.mem_of_getElem? (i := 5) rfl)
  have hS : va_S A s.heap s.heap [] := va_S.rf
  have hl := lv_entry ([.ref (ad 0), .int a1, .int a2]) (n := 3) (Nat.le_of_ble_eq_true rfl)
  rw [lg_entry_eq]
  generalize (lg_sl ([.ref (ad 0), .int a1, .int a2]) ++ List.replicate (3 - (lg_sl ([.ref (ad 0), .int a1, .int a2])).length) Slot.unset).toArray = ls at hl ⊢
  have hl : lv_has ls 3 [(0, .ref (ad 0)), (1, .int a1), (2, .int a2)] := hl
  unfold f_X10_takes at h
  refine lv_aload_n hx hb dX10_takes_0 rfl (lv_at hl 0 rfl) ?_
  refine gf_X10_18 S hiX10 hK hP hf48 dX10_takes_1 ?_
  refine lv_iload_n hx hb dX10_takes_4 rfl (lv_at hl 1 rfl) ?_
  refine lv_iload_n hx hb dX10_takes_5 rfl (lv_at hl 2 rfl) ?_
  replace h := pt_gd h; obtain ⟨g1, h⟩ := h
  replace h := pt_dos h; obtain ⟨σ2, e2, h⟩ := h
  refine st_R_9 S hK hP hDa hS g1 e2 dX10_takes_6 (fun H locs hP hS => ?_)
  refine lv_aload_n hx hb dX10_takes_7 rfl (lv_at hl 0 rfl) ?_
  refine gf_X10_33 S hiX10 hK hP hf142 dX10_takes_8 ?_
  refine lv_if_ne (tgt := 32) hx hb dX10_takes_11 (by decide) (fun c3 => ?_) (fun c3 => ?_)
  · replace h := pt_iN c3 h
    refine lv_aload_n hx hb dX10_takes_32 rfl (lv_at hl 0 rfl) ?_
    refine gf_X10_17 S hiX10 hK hP hf45 dX10_takes_33 ?_
    refine lv_iload_n hx hb dX10_takes_36 rfl (lv_at hl 1 rfl) ?_
    refine lv_iconst (v := 1) hx hb dX10_takes_37 (by decide) ?_
    replace h := pt_dos h; obtain ⟨σ11, e11, h⟩ := h
    refine st_R_8 S hK hP hDa hS g1 e11 dX10_takes_38 (fun H locs hP hS => ?_)
    refine lv_aload_n hx hb dX10_takes_39 rfl (lv_at hl 0 rfl) ?_
    refine gf_X10_32 S hiX10 hK hP hf72 dX10_takes_40 ?_
    refine lv_aload_n hx hb dX10_takes_43 rfl (lv_at hl 0 rfl) ?_
    refine gf_X10_33 S hiX10 hK hP hf142 dX10_takes_44 ?_
    refine lv_iload_n hx hb dX10_takes_47 rfl (lv_at hl 1 rfl) ?_
    replace h := pt_gd h; obtain ⟨g12, h⟩ := h
    replace h := pt_dos h; obtain ⟨σ13, e13, h⟩ := h
    refine st_R_17 S hK hP hDa hS g12 e13 dX10_takes_48 (fun H locs hP hS => ?_)
    refine lv_aload_n hx hb dX10_takes_49 rfl (lv_at hl 0 rfl) ?_
    refine lv_dup hx hb dX10_takes_50 rfl ?_
    refine gf_X10_33 S hiX10 hK hP hf142 dX10_takes_51 ?_
    refine lv_iconst (v := 1) hx hb dX10_takes_54 (by decide) ?_
    refine lv_iadd hx hb dX10_takes_55 ?_
    replace h := pt_dos h; obtain ⟨σ14, e14, h⟩ := h
    refine pf_X10_33 S hiX10 hK hP hDa hS hf142 e14 dX10_takes_56 (fun H locs hP hS => ?_)
    exact pt_vret S hr hlk hP hS (congrArg (wR ca ad) (pt_so h)) dX10_takes_59
  · replace h := pt_ip c3 h
    refine lv_aload_n hx hb dX10_takes_14 rfl (lv_at hl 0 rfl) ?_
    refine gf_X10_31 S hiX10 hK hP hf139 dX10_takes_15 ?_
    refine lv_aload_n hx hb dX10_takes_18 rfl (lv_at hl 0 rfl) ?_
    refine lv_iload_n hx hb dX10_takes_19 rfl (lv_at hl 2 rfl) ?_
    replace h := pt_b2s h; obtain ⟨r4, σ4, e4, h⟩ := h
    refine pt_cVi (As := [.int a2]) (rest := [.int (σ2 0 31)]) S (m_X10_lengthOf l hDa e4) (cwV 1 S.2.2.2.2 gX10_takes_X10_lengthOf rfl rfl rfl (by decide +kernel) ⟨Nat.le_of_ble_eq_true rfl, Nat.le_of_ble_eq_true rfl⟩) hK hP hS hZ 0 10 rfl rfl rfl hl.1 rfl (Nat.le_of_ble_eq_true rfl) dX10_takes_20 ⟨Nat.zero_le _, Nat.zero_le _⟩ (fun H locs hP hS => ?_)
    refine lv_icmp_lt (tgt := 32) hx hb dX10_takes_23 (by decide) (fun c5 => ?_) (fun c5 => ?_)
    · replace h := pt_ip c5 h
      refine lv_aload_n hx hb dX10_takes_32 rfl (lv_at hl 0 rfl) ?_
      refine gf_X10_17 S hiX10 hK hP hf45 dX10_takes_33 ?_
      refine lv_iload_n hx hb dX10_takes_36 rfl (lv_at hl 1 rfl) ?_
      refine lv_iconst (v := 1) hx hb dX10_takes_37 (by decide) ?_
      replace h := pt_dos h; obtain ⟨σ6, e6, h⟩ := h
      refine st_R_8 S hK hP hDa hS g1 e6 dX10_takes_38 (fun H locs hP hS => ?_)
      refine lv_aload_n hx hb dX10_takes_39 rfl (lv_at hl 0 rfl) ?_
      refine gf_X10_32 S hiX10 hK hP hf72 dX10_takes_40 ?_
      refine lv_aload_n hx hb dX10_takes_43 rfl (lv_at hl 0 rfl) ?_
      refine gf_X10_33 S hiX10 hK hP hf142 dX10_takes_44 ?_
      refine lv_iload_n hx hb dX10_takes_47 rfl (lv_at hl 1 rfl) ?_
      replace h := pt_gd h; obtain ⟨g7, h⟩ := h
      replace h := pt_dos h; obtain ⟨σ8, e8, h⟩ := h
      refine st_R_17 S hK hP hDa hS g7 e8 dX10_takes_48 (fun H locs hP hS => ?_)
      refine lv_aload_n hx hb dX10_takes_49 rfl (lv_at hl 0 rfl) ?_
      refine lv_dup hx hb dX10_takes_50 rfl ?_
      refine gf_X10_33 S hiX10 hK hP hf142 dX10_takes_51 ?_
      refine lv_iconst (v := 1) hx hb dX10_takes_54 (by decide) ?_
      refine lv_iadd hx hb dX10_takes_55 ?_
      replace h := pt_dos h; obtain ⟨σ9, e9, h⟩ := h
      refine pf_X10_33 S hiX10 hK hP hDa hS hf142 e9 dX10_takes_56 (fun H locs hP hS => ?_)
      exact pt_vret S hr hlk hP hS (congrArg (wR ca ad) (pt_so h)) dX10_takes_59
    · replace h := pt_iN c5 h
      refine lv_aload_n hx hb dX10_takes_26 rfl (lv_at hl 0 rfl) ?_
      refine lv_iload_n hx hb dX10_takes_27 rfl (lv_at hl 1 rfl) ?_
      replace h := pt_b1s h; obtain ⟨σ10, e10, h⟩ := h
      refine pt_cVv (As := [.int a1]) (rest := []) S (m_X10_works l hDa e10) (cwV 1 S.2.2.2.2 gX10_takes_X10_works rfl rfl rfl (by decide +kernel) ⟨Nat.le_of_ble_eq_true rfl, Nat.le_of_ble_eq_true rfl⟩) hK hP hS hZ 0 10 rfl rfl rfl hl.1 rfl (Nat.le_of_ble_eq_true rfl) dX10_takes_28 ⟨Nat.zero_le _, Nat.zero_le _⟩ (fun H locs hP hS => ?_)
      exact pt_vret S hr hlk hP hS (congrArg (wR ca ad) (pt_so h)) dX10_takes_31

def lp_X10_leaves_4 (k : pt_St → Int32 → Int32 → Option pt_St) (a1 : Int32) : Nat → pt_St → Int32 → Int32 → Option pt_St
  | 0, _, _, _ => none
  | n + 1, σ, x2, x3 =>
    if (σ 0 33) ≤ x3 then
    k σ x2 x3
    else
    if pt_in x3 6 then
    if (σ 17 x3.toNatClampNeg) = a1 then
    lp_X10_leaves_4 k a1 n σ x2 (x3 + (1 : Int32))
    else
    if pt_in x2 6 then
    pt_do (pt_put σ 17 x2.toNatClampNeg (σ 17 x3.toNatClampNeg)) fun σ5005 =>
    lp_X10_leaves_4 k a1 n σ5005 (x2 + (1 : Int32)) (x3 + (1 : Int32))
    else none
    else none
def kx_X10_leaves_4 (a1 : Int32) (σ : pt_St) (x2 : Int32) (x3 : Int32) : Option pt_St :=
  pt_do (pt_put σ 0 33 x2) fun σ5501 =>
  some σ5501
def f_X10_leaves (σ : pt_St) (a1 : Int32) : Option pt_St :=
  lp_X10_leaves_4 (kx_X10_leaves_4 a1) a1 pt_F σ (0 : Int32) (0 : Int32)
set_option maxHeartbeats 4000000 in
set_option maxRecDepth 100000 in
theorem m_X10_leaves (l : Launch) {D : va_G} {A : Nat → Prop} {ca : Nat → ClassId} {ad : Nat → Nat} {z : Nat × Nat} (hDa : ∀ σ, va_D A (wR ca ad σ)) {σ σ' : pt_St} {a1 : Int32} (h : f_X10_leaves σ a1 = some σ') : Met l yX10_leaves wsX10_leaves { frames := 0, cells := 0, slots := 0, locals := 0 } (va_Pc [.ref (ad 0), .int a1] (pt_Pre D (tysR ca) z A (wR ca ad σ))) (pt_Q none D (wR ca ad σ') A) 0 0 A := by
  refine Met.ofW (cc := cX10_leaves) (maxL := 4) (ret := none) (by decide) rfl ?_
  intro p e s m args below meth c s₁ B hml hv
  obtain ⟨rfl, hP, hK, hZ⟩ := hv
  have S : CallFix p m c cX10_leaves 4 s ([.ref (ad 0), .int a1] : List Value).toArray wsX10_leaves RX10 := ⟨B.exec, B.bytes, hml, findClass_of_methodNamed B.named, atoms_spec (ws := wsX10_leaves) B.pre⟩
  have hx := S.1
  have hb := S.2.1
  have hr := B.returns
  have hlk := B.notSynchronized
  clear B
  have hiX10 : ∀ w ∈ wsX100, w ∈ wsX10_leaves := fun w h => List.mem_cons_of_mem _ (List.mem_append_right _ h)
  have hf142 : (Cond.fieldLink RX10 142 "PackThreadsModel" "lineMany" "I").before _ s = true := S.2.2.2.2 _ (List.mem_of_getElem? (i := 1) rfl)
  have hf72 : (Cond.fieldLink RX10 72 "PackThreadsModel" "line" "[I").before _ s = true := S.2.2.2.2 _ (List.mem_of_getElem? (i := 2) rfl)
  have hS : va_S A s.heap s.heap [] := va_S.rf
  have hl := lv_entry ([.ref (ad 0), .int a1]) (n := 4) (Nat.le_of_ble_eq_true rfl)
  rw [lg_entry_eq]
  generalize (lg_sl ([.ref (ad 0), .int a1]) ++ List.replicate (4 - (lg_sl ([.ref (ad 0), .int a1])).length) Slot.unset).toArray = ls at hl ⊢
  have hl : lv_has ls 4 [(0, .ref (ad 0)), (1, .int a1)] := hl
  unfold f_X10_leaves at h
  refine lv_iconst (v := 0) hx hb dX10_leaves_0 (by decide) ?_
  refine lv_istore_n (lv' := [(2, .int (0 : Int32)), (0, .ref (ad 0)), (1, .int a1)]) hx hb dX10_leaves_1 rfl hl (by decide) rfl (fun ls hl => ?_)
  refine lv_iconst (v := 0) hx hb dX10_leaves_2 (by decide) ?_
  refine lv_istore_n (lv' := [(3, .int (0 : Int32)), (2, .int (0 : Int32)), (0, .ref (ad 0)), (1, .int a1)]) hx hb dX10_leaves_3 rfl hl (by decide) rfl (fun ls hl => ?_)
  have X4 : ∀ (σ : pt_St) (x2 : Int32) (x3 : Int32), kx_X10_leaves_4 a1 σ x2 x3 = some σ' → ∀ (H : Heap) (locs : List Loc) (ls : Array Slot), va_P D vwCl (wR ca ad σ) H → va_S A s.heap H locs → lv_has ls 4 [(0, .ref (ad 0)), (1, .int a1), (2, .int x2), (3, .int x3)] → W p l e (headSpec wsX10_leaves { frames := 0, cells := 0, slots := 0, locals := 0 }).room s m ([.ref (ad 0), .int a1] : List Value).toArray below meth c H locs 0 0 (MQ below (pt_Q none D (wR ca ad σ') A) ([.ref (ad 0), .int a1] : List Value).toArray s 0 0 A) (F0 m 43 ls []) := by
    intro σ x2 x3 h H locs ls hP hS hl
    unfold kx_X10_leaves_4 at h
    refine lv_aload_n hx hb dX10_leaves_43 rfl (lv_at hl 0 rfl) ?_
    refine lv_iload_n hx hb dX10_leaves_44 rfl (lv_at hl 2 rfl) ?_
    replace h := pt_dos h; obtain ⟨σ5501, e5501, h⟩ := h
    refine pf_X10_33 S hiX10 hK hP hDa hS hf142 e5501 dX10_leaves_45 (fun H locs hP hS => ?_)
    exact pt_vret S hr hlk hP hS (congrArg (wR ca ad) (pt_so h)) dX10_leaves_48
  have L4 : ∀ (n : Nat) (σ : pt_St) (x2 : Int32) (x3 : Int32),  lp_X10_leaves_4 (kx_X10_leaves_4 a1) a1 n σ x2 x3 = some σ' → ∀ (H : Heap) (locs : List Loc) (ls : Array Slot), va_P D vwCl (wR ca ad σ) H → va_S A s.heap H locs → lv_has ls 4 [(0, .ref (ad 0)), (1, .int a1), (2, .int x2), (3, .int x3)] → W p l e (headSpec wsX10_leaves { frames := 0, cells := 0, slots := 0, locals := 0 }).room s m ([.ref (ad 0), .int a1] : List Value).toArray below meth c H locs 0 0 (MQ below (pt_Q none D (wR ca ad σ') A) ([.ref (ad 0), .int a1] : List Value).toArray s 0 0 A) (F0 m 4 ls []) := by
    intro n
    induction n with
    | zero => intro σ x2 x3 h; cases h
    | succ n ih0 =>
      intro σ x2 x3 h H locs ls hP hS hl
      rw [lp_X10_leaves_4] at h
      refine lv_iload_n hx hb dX10_leaves_4 rfl (lv_at hl 3 rfl) ?_
      refine lv_aload_n hx hb dX10_leaves_5 rfl (lv_at hl 0 rfl) ?_
      refine gf_X10_33 S hiX10 hK hP hf142 dX10_leaves_6 ?_
      refine lv_icmp_ge (tgt := 43) hx hb dX10_leaves_9 (by decide) (fun c5001 => ?_) (fun c5001 => ?_)
      · replace h := pt_ip c5001 h
        exact X4 _ _ _ h _ _ _ hP hS (lv_sub hl [0, 1, 2, 3] rfl)
      · replace h := pt_iN c5001 h
        refine lv_aload_n hx hb dX10_leaves_12 rfl (lv_at hl 0 rfl) ?_
        refine gf_X10_32 S hiX10 hK hP hf72 dX10_leaves_13 ?_
        refine lv_iload_n hx hb dX10_leaves_16 rfl (lv_at hl 3 rfl) ?_
        replace h := pt_gd h; obtain ⟨g5002, h⟩ := h
        refine ld_R_17 S hK hP g5002 dX10_leaves_17 ?_
        refine lv_iload_n hx hb dX10_leaves_18 rfl (lv_at hl 1 rfl) ?_
        refine lv_icmp_eq (tgt := 37) hx hb dX10_leaves_19 (by decide) (fun c5003 => ?_) (fun c5003 => ?_)
        · replace h := pt_ip c5003 h
          refine lv_iinc (v := x3 + (1 : Int32)) (lv' := [(3, .int (x3 + (1 : Int32))), (0, .ref (ad 0)), (1, .int a1), (2, .int x2)]) hx hb dX10_leaves_37 hl (k := 3) rfl rfl (by decide) rfl (fun ls hl => ?_)
          refine lv_goto (tgt := 4) hx hb dX10_leaves_40 (by decide) ?_
          exact ih0 _ _ _ h _ _ _ hP hS (lv_sub hl [1, 2, 3, 0] rfl)
        · replace h := pt_iN c5003 h
          refine lv_aload_n hx hb dX10_leaves_22 rfl (lv_at hl 0 rfl) ?_
          refine gf_X10_32 S hiX10 hK hP hf72 dX10_leaves_23 ?_
          refine lv_iload_n hx hb dX10_leaves_26 rfl (lv_at hl 2 rfl) ?_
          refine lv_aload_n hx hb dX10_leaves_27 rfl (lv_at hl 0 rfl) ?_
          refine gf_X10_32 S hiX10 hK hP hf72 dX10_leaves_28 ?_
          refine lv_iload_n hx hb dX10_leaves_31 rfl (lv_at hl 3 rfl) ?_
          refine ld_R_17 S hK hP g5002 dX10_leaves_32 ?_
          replace h := pt_gd h; obtain ⟨g5004, h⟩ := h
          replace h := pt_dos h; obtain ⟨σ5005, e5005, h⟩ := h
          refine st_R_17 S hK hP hDa hS g5004 e5005 dX10_leaves_33 (fun H locs hP hS => ?_)
          refine lv_iinc (v := x2 + (1 : Int32)) (lv' := [(2, .int (x2 + (1 : Int32))), (0, .ref (ad 0)), (1, .int a1), (3, .int x3)]) hx hb dX10_leaves_34 hl (k := 2) rfl rfl (by decide) rfl (fun ls hl => ?_)
          refine lv_iinc (v := x3 + (1 : Int32)) (lv' := [(3, .int (x3 + (1 : Int32))), (2, .int (x2 + (1 : Int32))), (0, .ref (ad 0)), (1, .int a1)]) hx hb dX10_leaves_37 hl (k := 3) rfl rfl (by decide) rfl (fun ls hl => ?_)
          refine lv_goto (tgt := 4) hx hb dX10_leaves_40 (by decide) ?_
          exact ih0 _ _ _ h _ _ _ hP hS (lv_sub hl [2, 3, 1, 0] rfl)
  exact L4 _ _ _ _ h _ _ _ hP hS (lv_sub hl [2, 3, 1, 0] rfl)

def lp_X10_givesBack_10 (k : pt_St → Option pt_St) (a1 : Int32) : Nat → pt_St → Option pt_St
  | 0, _ => none
  | n + 1, σ =>
    if (σ 0 33) ≤ (0 : Int32) then
    k σ
    else
    if pt_in (σ 17 (0 : Int32).toNatClampNeg) 6 then
    pt_b2 (f_X10_lengthOf σ (σ 9 (σ 17 (0 : Int32).toNatClampNeg).toNatClampNeg)) fun r11003 σ11003 =>
    if (σ 0 31) < r11003 then
    k σ11003
    else
    pt_b1 (f_X10_leaves σ11003 (σ11003 17 (0 : Int32).toNatClampNeg)) fun σ11005 =>
    pt_b1 (f_X10_works σ11005 (σ11003 17 (0 : Int32).toNatClampNeg)) fun σ11006 =>
    lp_X10_givesBack_10 k a1 n σ11006
    else none
def kx_X10_givesBack_10 (a1 : Int32) (σ : pt_St) : Option pt_St :=
  some σ
def f_X10_givesBack (σ : pt_St) (a1 : Int32) : Option pt_St :=
  pt_do (pt_put σ 0 31 ((σ 0 31) + a1)) fun σ1 =>
  lp_X10_givesBack_10 (kx_X10_givesBack_10 a1) a1 pt_F σ1
set_option maxHeartbeats 4000000 in
set_option maxRecDepth 100000 in
theorem m_X10_givesBack (l : Launch) {D : va_G} {A : Nat → Prop} {ca : Nat → ClassId} {ad : Nat → Nat} {z : Nat × Nat} (hDa : ∀ σ, va_D A (wR ca ad σ)) {σ σ' : pt_St} {a1 : Int32} (h : f_X10_givesBack σ a1 = some σ') : Met l yX10_givesBack wsX10_givesBack { frames := 2, cells := 0, slots := 0, locals := 43 } (va_Pc [.ref (ad 0), .int a1] (pt_Pre D (tysR ca) z A (wR ca ad σ))) (pt_Q none D (wR ca ad σ') A) 0 0 A := by
  refine Met.ofW (cc := cX10_givesBack) (maxL := 3) (ret := none) (by decide) rfl ?_
  intro p e s m args below meth c s₁ B hml hv
  obtain ⟨rfl, hP, hK, hZ⟩ := hv
  have S : CallFix p m c cX10_givesBack 3 s ([.ref (ad 0), .int a1] : List Value).toArray wsX10_givesBack RX10 := ⟨B.exec, B.bytes, hml, findClass_of_methodNamed B.named, atoms_spec (ws := wsX10_givesBack) B.pre⟩
  have hx := S.1
  have hb := S.2.1
  have hr := B.returns
  have hlk := B.notSynchronized
  clear B
  have hiX10 : ∀ w ∈ wsX100, w ∈ wsX10_givesBack := fun w h => List.mem_cons_of_mem _ (List.mem_append_right _ h)
  have hf139 : (Cond.fieldLink RX10 139 "PackThreadsModel" "left" "I").before _ s = true := S.2.2.2.2 _ (List.mem_of_getElem? (i := 1) rfl)
  have hf142 : (Cond.fieldLink RX10 142 "PackThreadsModel" "lineMany" "I").before _ s = true := S.2.2.2.2 _ (List.mem_of_getElem? (i := 2) rfl)
  have hf48 : (Cond.fieldLink RX10 48 "PackThreadsModel" "block" "[I").before _ s = true := S.2.2.2.2 _ (List.mem_of_getElem? (i := 3) rfl)
  have hf72 : (Cond.fieldLink RX10 72 "PackThreadsModel" "line" "[I").before _ s = true := S.2.2.2.2 _ (List.mem_of_getElem? (i := 4) rfl)
  have hS : va_S A s.heap s.heap [] := va_S.rf
  have hl := lv_entry ([.ref (ad 0), .int a1]) (n := 3) (Nat.le_of_ble_eq_true rfl)
  rw [lg_entry_eq]
  generalize (lg_sl ([.ref (ad 0), .int a1]) ++ List.replicate (3 - (lg_sl ([.ref (ad 0), .int a1])).length) Slot.unset).toArray = ls at hl ⊢
  have hl : lv_has ls 3 [(0, .ref (ad 0)), (1, .int a1)] := hl
  unfold f_X10_givesBack at h
  refine lv_aload_n hx hb dX10_givesBack_0 rfl (lv_at hl 0 rfl) ?_
  refine lv_dup hx hb dX10_givesBack_1 rfl ?_
  refine gf_X10_31 S hiX10 hK hP hf139 dX10_givesBack_2 ?_
  refine lv_iload_n hx hb dX10_givesBack_5 rfl (lv_at hl 1 rfl) ?_
  refine lv_iadd hx hb dX10_givesBack_6 ?_
  replace h := pt_dos h; obtain ⟨σ1, e1, h⟩ := h
  refine pf_X10_31 S hiX10 hK hP hDa hS hf139 e1 dX10_givesBack_7 (fun H locs hP hS => ?_)
  have X10 : ∀ (σ : pt_St), kx_X10_givesBack_10 a1 σ = some σ' → ∀ (H : Heap) (locs : List Loc) (ls : Array Slot), va_P D vwCl (wR ca ad σ) H → va_S A s.heap H locs → lv_has ls 3 [(0, .ref (ad 0)), (1, .int a1)] → W p l e (headSpec wsX10_givesBack { frames := 2, cells := 0, slots := 0, locals := 43 }).room s m ([.ref (ad 0), .int a1] : List Value).toArray below meth c H locs 0 0 (MQ below (pt_Q none D (wR ca ad σ') A) ([.ref (ad 0), .int a1] : List Value).toArray s 0 0 A) (F0 m 59 ls []) := by
    intro σ h H locs ls hP hS hl
    unfold kx_X10_givesBack_10 at h
    exact pt_vret S hr hlk hP hS (congrArg (wR ca ad) (pt_so h)) dX10_givesBack_59
  have L10 : ∀ (n : Nat) (σ : pt_St),  lp_X10_givesBack_10 (kx_X10_givesBack_10 a1) a1 n σ = some σ' → ∀ (H : Heap) (locs : List Loc) (ls : Array Slot), va_P D vwCl (wR ca ad σ) H → va_S A s.heap H locs → lv_has ls 3 [(0, .ref (ad 0)), (1, .int a1)] → W p l e (headSpec wsX10_givesBack { frames := 2, cells := 0, slots := 0, locals := 43 }).room s m ([.ref (ad 0), .int a1] : List Value).toArray below meth c H locs 0 0 (MQ below (pt_Q none D (wR ca ad σ') A) ([.ref (ad 0), .int a1] : List Value).toArray s 0 0 A) (F0 m 10 ls []) := by
    intro n
    induction n with
    | zero => intro σ h; cases h
    | succ n ih0 =>
      intro σ h H locs ls hP hS hl
      rw [lp_X10_givesBack_10] at h
      refine lv_aload_n hx hb dX10_givesBack_10 rfl (lv_at hl 0 rfl) ?_
      refine gf_X10_33 S hiX10 hK hP hf142 dX10_givesBack_11 ?_
      refine lv_if_le (tgt := 59) hx hb dX10_givesBack_14 (by decide) (fun c11001 => ?_) (fun c11001 => ?_)
      · replace h := pt_ip c11001 h
        exact X10 _ h _ _ _ hP hS (lv_sub hl [0, 1] rfl)
      · replace h := pt_iN c11001 h
        refine lv_aload_n hx hb dX10_givesBack_17 rfl (lv_at hl 0 rfl) ?_
        refine gf_X10_31 S hiX10 hK hP hf139 dX10_givesBack_18 ?_
        refine lv_aload_n hx hb dX10_givesBack_21 rfl (lv_at hl 0 rfl) ?_
        refine lv_aload_n hx hb dX10_givesBack_22 rfl (lv_at hl 0 rfl) ?_
        refine gf_X10_18 S hiX10 hK hP hf48 dX10_givesBack_23 ?_
        refine lv_aload_n hx hb dX10_givesBack_26 rfl (lv_at hl 0 rfl) ?_
        refine gf_X10_32 S hiX10 hK hP hf72 dX10_givesBack_27 ?_
        refine lv_iconst (v := 0) hx hb dX10_givesBack_30 (by decide) ?_
        refine ld_R_17 S hK hP (by decide) dX10_givesBack_31 ?_
        replace h := pt_gd h; obtain ⟨g11002, h⟩ := h
        refine ld_R_9 S hK hP g11002 dX10_givesBack_32 ?_
        replace h := pt_b2s h; obtain ⟨r11003, σ11003, e11003, h⟩ := h
        refine pt_cVi (As := [.int (σ 9 (σ 17 (0 : Int32).toNatClampNeg).toNatClampNeg)]) (rest := [.int (σ 0 31)]) S (m_X10_lengthOf l hDa e11003) (cwV 1 S.2.2.2.2 gX10_givesBack_X10_lengthOf rfl rfl rfl (by decide +kernel) ⟨Nat.le_of_ble_eq_true rfl, Nat.le_of_ble_eq_true rfl⟩) hK hP hS hZ 0 10 rfl rfl rfl hl.1 rfl (Nat.le_of_ble_eq_true rfl) dX10_givesBack_33 ⟨Nat.zero_le _, Nat.zero_le _⟩ (fun H locs hP hS => ?_)
        refine lv_icmp_lt (tgt := 59) hx hb dX10_givesBack_36 (by decide) (fun c11004 => ?_) (fun c11004 => ?_)
        · replace h := pt_ip c11004 h
          exact X10 _ h _ _ _ hP hS (lv_sub hl [0, 1] rfl)
        · replace h := pt_iN c11004 h
          refine lv_aload_n hx hb dX10_givesBack_39 rfl (lv_at hl 0 rfl) ?_
          refine gf_X10_32 S hiX10 hK hP hf72 dX10_givesBack_40 ?_
          refine lv_iconst (v := 0) hx hb dX10_givesBack_43 (by decide) ?_
          refine ld_R_17 S hK hP (by decide) dX10_givesBack_44 ?_
          refine lv_istore_n (lv' := [(2, .int (σ11003 17 (0 : Int32).toNatClampNeg)), (0, .ref (ad 0)), (1, .int a1)]) hx hb dX10_givesBack_45 rfl hl (by decide) rfl (fun ls hl => ?_)
          refine lv_aload_n hx hb dX10_givesBack_46 rfl (lv_at hl 1 rfl) ?_
          refine lv_iload_n hx hb dX10_givesBack_47 rfl (lv_at hl 0 rfl) ?_
          replace h := pt_b1s h; obtain ⟨σ11005, e11005, h⟩ := h
          refine pt_cVv (As := [.int (σ11003 17 (0 : Int32).toNatClampNeg)]) (rest := []) S (m_X10_leaves l hDa e11005) (cwV 1 S.2.2.2.2 gX10_givesBack_X10_leaves rfl rfl rfl (by decide +kernel) ⟨Nat.le_of_ble_eq_true rfl, Nat.le_of_ble_eq_true rfl⟩) hK hP hS hZ 0 10 rfl rfl rfl hl.1 rfl (Nat.le_of_ble_eq_true rfl) dX10_givesBack_48 ⟨Nat.zero_le _, Nat.zero_le _⟩ (fun H locs hP hS => ?_)
          refine lv_aload_n hx hb dX10_givesBack_51 rfl (lv_at hl 1 rfl) ?_
          refine lv_iload_n hx hb dX10_givesBack_52 rfl (lv_at hl 0 rfl) ?_
          replace h := pt_b1s h; obtain ⟨σ11006, e11006, h⟩ := h
          refine pt_cVv (As := [.int (σ11003 17 (0 : Int32).toNatClampNeg)]) (rest := []) S (m_X10_works l hDa e11006) (cwV 1 S.2.2.2.2 gX10_givesBack_X10_works rfl rfl rfl (by decide +kernel) ⟨Nat.le_of_ble_eq_true rfl, Nat.le_of_ble_eq_true rfl⟩) hK hP hS hZ 0 10 rfl rfl rfl hl.1 rfl (Nat.le_of_ble_eq_true rfl) dX10_givesBack_53 ⟨Nat.zero_le _, Nat.zero_le _⟩ (fun H locs hP hS => ?_)
          refine lv_goto (tgt := 10) hx hb dX10_givesBack_56 (by decide) ?_
          exact ih0 _ h _ _ _ hP hS (lv_sub hl [1, 2] rfl)
  exact L10 _ _ h _ _ _ hP hS (lv_sub hl [0, 1] rfl)

def lp_X10_isSome_5 (k : pt_St → Int32 → Int32 → Option (Int32 × pt_St)) (a1 : Int32) (a2 : Int32) : Nat → pt_St → Int32 → Int32 → Option (Int32 × pt_St)
  | 0, _, _, _ => none
  | n + 1, σ, x3, x4 =>
    if (σ 0 15) ≤ x4 then
    k σ x3 x4
    else
    if x3 = (0 : Int32) then
    if a2 = (0 : Int32) then
    if pt_in x4 6 then
    if (σ 8 x4.toNatClampNeg) = a1 then
    lp_X10_isSome_5 k a1 a2 n σ (1 : Int32) (x4 + (1 : Int32))
    else
    lp_X10_isSome_5 k a1 a2 n σ (0 : Int32) (x4 + (1 : Int32))
    else none
    else
    if pt_in x4 6 then
    if (σ 8 x4.toNatClampNeg) = (1 : Int32) then
    if pt_in (σ 9 x4.toNatClampNeg) 40 then
    if (σ 14 (σ 9 x4.toNatClampNeg).toNatClampNeg) = (0 : Int32) then
    lp_X10_isSome_5 k a1 a2 n σ (0 : Int32) (x4 + (1 : Int32))
    else
    lp_X10_isSome_5 k a1 a2 n σ (1 : Int32) (x4 + (1 : Int32))
    else none
    else
    if (σ 8 x4.toNatClampNeg) = (2 : Int32) then
    if pt_in (σ 9 x4.toNatClampNeg) 40 then
    if (σ 14 (σ 9 x4.toNatClampNeg).toNatClampNeg) = (0 : Int32) then
    lp_X10_isSome_5 k a1 a2 n σ (0 : Int32) (x4 + (1 : Int32))
    else
    lp_X10_isSome_5 k a1 a2 n σ (1 : Int32) (x4 + (1 : Int32))
    else none
    else
    lp_X10_isSome_5 k a1 a2 n σ (0 : Int32) (x4 + (1 : Int32))
    else none
    else
    lp_X10_isSome_5 k a1 a2 n σ (1 : Int32) (x4 + (1 : Int32))
def kx_X10_isSome_5 (a1 : Int32) (a2 : Int32) (σ : pt_St) (x3 : Int32) (x4 : Int32) : Option (Int32 × pt_St) :=
  if x3 = 0 ∨ x3 = 1 then some (x3, σ) else none
def f_X10_isSome (σ : pt_St) (a1 : Int32) (a2 : Int32) : Option (Int32 × pt_St) :=
  lp_X10_isSome_5 (kx_X10_isSome_5 a1 a2) a1 a2 pt_F σ (0 : Int32) (0 : Int32)
set_option maxHeartbeats 4000000 in
set_option maxRecDepth 100000 in
theorem m_X10_isSome (l : Launch) {D : va_G} {A : Nat → Prop} {ca : Nat → ClassId} {ad : Nat → Nat} {z : Nat × Nat} (hDa : ∀ σ, va_D A (wR ca ad σ)) {σ σ' : pt_St} {r : Int32} {a1 : Int32} {a2 : Int32} (h : f_X10_isSome σ a1 a2 = some (r, σ')) : Met l yX10_isSome wsX10_isSome { frames := 0, cells := 0, slots := 0, locals := 0 } (va_Pc [.ref (ad 0), .int a1, .int a2] (pt_Pre D (tysR ca) z A (wR ca ad σ))) (pt_Q (some (.int r)) D (wR ca ad σ') A) 0 0 A := by
  refine Met.ofW (cc := cX10_isSome) (maxL := 5) (ret := (some .boolean)) (by decide) rfl ?_
  intro p e s m args below meth c s₁ B hml hv
  obtain ⟨rfl, hP, hK, hZ⟩ := hv
  have S : CallFix p m c cX10_isSome 5 s ([.ref (ad 0), .int a1, .int a2] : List Value).toArray wsX10_isSome RX10 := ⟨B.exec, B.bytes, hml, findClass_of_methodNamed B.named, atoms_spec (ws := wsX10_isSome) B.pre⟩
  have hx := S.1
  have hb := S.2.1
  have hr := B.returns
  have hlk := B.notSynchronized
  clear B
  have hiX10 : ∀ w ∈ wsX100, w ∈ wsX10_isSome := fun w h => List.mem_cons_of_mem _ (List.mem_append_right _ h)
  have hf118 : (Cond.fieldLink RX10 118 "PackThreadsModel" "threads" "I").before _ s = true := S.2.2.2.2 _ (List.mem_of_getElem? (i := 1) rfl)
  have hf45 : (Cond.fieldLink RX10 45 "PackThreadsModel" "state" "[I").before _ s = true := S.2.2.2.2 _ (List.mem_of_getElem? (i := 2) rfl)
  have hf63 : (Cond.fieldLink RX10 63 "PackThreadsModel" "hasFailed" "[Z").before _ s = true := S.2.2.2.2 _ (List.mem_of_getElem? (i := 3) rfl)
  have hf48 : (Cond.fieldLink RX10 48 "PackThreadsModel" "block" "[I").before _ s = true := S.2.2.2.2 _ (List.mem_of_getElem? (i := 4) rfl)
  have hS : va_S A s.heap s.heap [] := va_S.rf
  have hl := lv_entry ([.ref (ad 0), .int a1, .int a2]) (n := 5) (Nat.le_of_ble_eq_true rfl)
  rw [lg_entry_eq]
  generalize (lg_sl ([.ref (ad 0), .int a1, .int a2]) ++ List.replicate (5 - (lg_sl ([.ref (ad 0), .int a1, .int a2])).length) Slot.unset).toArray = ls at hl ⊢
  have hl : lv_has ls 5 [(0, .ref (ad 0)), (1, .int a1), (2, .int a2)] := hl
  unfold f_X10_isSome at h
  refine lv_iconst (v := 0) hx hb dX10_isSome_0 (by decide) ?_
  refine lv_istore_n (lv' := [(3, .int (0 : Int32)), (0, .ref (ad 0)), (1, .int a1), (2, .int a2)]) hx hb dX10_isSome_1 rfl hl (by decide) rfl (fun ls hl => ?_)
  refine lv_iconst (v := 0) hx hb dX10_isSome_2 (by decide) ?_
  refine lv_istore (lv' := [(4, .int (0 : Int32)), (3, .int (0 : Int32)), (0, .ref (ad 0)), (1, .int a1), (2, .int a2)]) hx hb dX10_isSome_3 hl (by decide) rfl (fun ls hl => ?_)
  have X5 : ∀ (σ : pt_St) (x3 : Int32) (x4 : Int32), kx_X10_isSome_5 a1 a2 σ x3 x4 = some (r, σ') → ∀ (H : Heap) (locs : List Loc) (ls : Array Slot), va_P D vwCl (wR ca ad σ) H → va_S A s.heap H locs → lv_has ls 5 [(0, .ref (ad 0)), (1, .int a1), (2, .int a2), (3, .int x3), (4, .int x4)] → W p l e (headSpec wsX10_isSome { frames := 0, cells := 0, slots := 0, locals := 0 }).room s m ([.ref (ad 0), .int a1, .int a2] : List Value).toArray below meth c H locs 0 0 (MQ below (pt_Q (some (.int r)) D (wR ca ad σ') A) ([.ref (ad 0), .int a1, .int a2] : List Value).toArray s 0 0 A) (F0 m 85 ls []) := by
    intro σ x3 x4 h H locs ls hP hS hl
    unfold kx_X10_isSome_5 at h
    refine lv_iload_n hx hb dX10_isSome_85 rfl (lv_at hl 3 rfl) ?_
    replace h := pt_gd h; obtain ⟨g6501, h⟩ := h
    exact pt_zret S hr hlk hP hS g6501 (pt_pr h).1 (congrArg (wR ca ad) (pt_pr h).2) dX10_isSome_86
  have L5 : ∀ (n : Nat) (σ : pt_St) (x3 : Int32) (x4 : Int32),  lp_X10_isSome_5 (kx_X10_isSome_5 a1 a2) a1 a2 n σ x3 x4 = some (r, σ') → ∀ (H : Heap) (locs : List Loc) (ls : Array Slot), va_P D vwCl (wR ca ad σ) H → va_S A s.heap H locs → lv_has ls 5 [(0, .ref (ad 0)), (1, .int a1), (2, .int a2), (3, .int x3), (4, .int x4)] → W p l e (headSpec wsX10_isSome { frames := 0, cells := 0, slots := 0, locals := 0 }).room s m ([.ref (ad 0), .int a1, .int a2] : List Value).toArray below meth c H locs 0 0 (MQ below (pt_Q (some (.int r)) D (wR ca ad σ') A) ([.ref (ad 0), .int a1, .int a2] : List Value).toArray s 0 0 A) (F0 m 5 ls []) := by
    intro n
    induction n with
    | zero => intro σ x3 x4 h; cases h
    | succ n ih0 =>
      intro σ x3 x4 h H locs ls hP hS hl
      rw [lp_X10_isSome_5] at h
      refine lv_iload hx hb dX10_isSome_5 (lv_at hl 4 rfl) ?_
      refine lv_aload_n hx hb dX10_isSome_7 rfl (lv_at hl 0 rfl) ?_
      refine gf_X10_15 S hiX10 hK hP hf118 dX10_isSome_8 ?_
      refine lv_icmp_ge (tgt := 85) hx hb dX10_isSome_11 (by decide) (fun c6001 => ?_) (fun c6001 => ?_)
      · replace h := pt_ip c6001 h
        exact X5 _ _ _ h _ _ _ hP hS (lv_sub hl [0, 1, 2, 3, 4] rfl)
      · replace h := pt_iN c6001 h
        refine lv_iload_n hx hb dX10_isSome_14 rfl (lv_at hl 3 rfl) ?_
        refine lv_if_ne (tgt := 73) hx hb dX10_isSome_15 (by decide) (fun c6002 => ?_) (fun c6002 => ?_)
        · replace h := pt_iN c6002 h
          refine lv_iconst (v := 1) hx hb dX10_isSome_73 (by decide) ?_
          refine lv_goto (tgt := 78) hx hb dX10_isSome_74 (by decide) ?_
          refine lv_istore_n (lv' := [(3, .int (1 : Int32)), (0, .ref (ad 0)), (1, .int a1), (2, .int a2), (4, .int x4)]) hx hb dX10_isSome_78 rfl hl (by decide) rfl (fun ls hl => ?_)
          refine lv_iinc (v := x4 + (1 : Int32)) (lv' := [(4, .int (x4 + (1 : Int32))), (3, .int (1 : Int32)), (0, .ref (ad 0)), (1, .int a1), (2, .int a2)]) hx hb dX10_isSome_79 hl (k := 4) rfl rfl (by decide) rfl (fun ls hl => ?_)
          refine lv_goto (tgt := 5) hx hb dX10_isSome_82 (by decide) ?_
          exact ih0 _ _ _ h _ _ _ hP hS (lv_sub hl [2, 3, 4, 1, 0] rfl)
        · replace h := pt_ip c6002 h
          refine lv_iload_n hx hb dX10_isSome_18 rfl (lv_at hl 2 rfl) ?_
          refine lv_if_eq (tgt := 62) hx hb dX10_isSome_19 (by decide) (fun c6003 => ?_) (fun c6003 => ?_)
          · replace h := pt_ip c6003 h
            refine lv_aload_n hx hb dX10_isSome_62 rfl (lv_at hl 0 rfl) ?_
            refine gf_X10_17 S hiX10 hK hP hf45 dX10_isSome_63 ?_
            refine lv_iload hx hb dX10_isSome_66 (lv_at hl 4 rfl) ?_
            replace h := pt_gd h; obtain ⟨g6004, h⟩ := h
            refine ld_R_8 S hK hP g6004 dX10_isSome_68 ?_
            refine lv_iload_n hx hb dX10_isSome_69 rfl (lv_at hl 1 rfl) ?_
            refine lv_icmp_ne (tgt := 77) hx hb dX10_isSome_70 (by decide) (fun c6005 => ?_) (fun c6005 => ?_)
            · replace h := pt_iN c6005 h
              refine lv_iconst (v := 0) hx hb dX10_isSome_77 (by decide) ?_
              refine lv_istore_n (lv' := [(3, .int (0 : Int32)), (0, .ref (ad 0)), (1, .int a1), (2, .int a2), (4, .int x4)]) hx hb dX10_isSome_78 rfl hl (by decide) rfl (fun ls hl => ?_)
              refine lv_iinc (v := x4 + (1 : Int32)) (lv' := [(4, .int (x4 + (1 : Int32))), (3, .int (0 : Int32)), (0, .ref (ad 0)), (1, .int a1), (2, .int a2)]) hx hb dX10_isSome_79 hl (k := 4) rfl rfl (by decide) rfl (fun ls hl => ?_)
              refine lv_goto (tgt := 5) hx hb dX10_isSome_82 (by decide) ?_
              exact ih0 _ _ _ h _ _ _ hP hS (lv_sub hl [2, 3, 4, 1, 0] rfl)
            · replace h := pt_ip c6005 h
              refine lv_iconst (v := 1) hx hb dX10_isSome_73 (by decide) ?_
              refine lv_goto (tgt := 78) hx hb dX10_isSome_74 (by decide) ?_
              refine lv_istore_n (lv' := [(3, .int (1 : Int32)), (0, .ref (ad 0)), (1, .int a1), (2, .int a2), (4, .int x4)]) hx hb dX10_isSome_78 rfl hl (by decide) rfl (fun ls hl => ?_)
              refine lv_iinc (v := x4 + (1 : Int32)) (lv' := [(4, .int (x4 + (1 : Int32))), (3, .int (1 : Int32)), (0, .ref (ad 0)), (1, .int a1), (2, .int a2)]) hx hb dX10_isSome_79 hl (k := 4) rfl rfl (by decide) rfl (fun ls hl => ?_)
              refine lv_goto (tgt := 5) hx hb dX10_isSome_82 (by decide) ?_
              exact ih0 _ _ _ h _ _ _ hP hS (lv_sub hl [2, 3, 4, 1, 0] rfl)
          · replace h := pt_iN c6003 h
            refine lv_aload_n hx hb dX10_isSome_22 rfl (lv_at hl 0 rfl) ?_
            refine gf_X10_17 S hiX10 hK hP hf45 dX10_isSome_23 ?_
            refine lv_iload hx hb dX10_isSome_26 (lv_at hl 4 rfl) ?_
            replace h := pt_gd h; obtain ⟨g6006, h⟩ := h
            refine ld_R_8 S hK hP g6006 dX10_isSome_28 ?_
            refine lv_iconst (v := 1) hx hb dX10_isSome_29 (by decide) ?_
            refine lv_icmp_eq (tgt := 44) hx hb dX10_isSome_30 (by decide) (fun c6007 => ?_) (fun c6007 => ?_)
            · replace h := pt_ip c6007 h
              refine lv_aload_n hx hb dX10_isSome_44 rfl (lv_at hl 0 rfl) ?_
              refine gf_X10_25 S hiX10 hK hP hf63 dX10_isSome_45 ?_
              refine lv_aload_n hx hb dX10_isSome_48 rfl (lv_at hl 0 rfl) ?_
              refine gf_X10_18 S hiX10 hK hP hf48 dX10_isSome_49 ?_
              refine lv_iload hx hb dX10_isSome_52 (lv_at hl 4 rfl) ?_
              refine ld_R_9 S hK hP g6006 dX10_isSome_54 ?_
              replace h := pt_gd h; obtain ⟨g6008, h⟩ := h
              refine ld_R_14 S hK hP g6008 dX10_isSome_55 ?_
              refine lv_if_eq (tgt := 77) hx hb dX10_isSome_56 (by decide) (fun c6009 => ?_) (fun c6009 => ?_)
              · replace h := pt_ip c6009 h
                refine lv_iconst (v := 0) hx hb dX10_isSome_77 (by decide) ?_
                refine lv_istore_n (lv' := [(3, .int (0 : Int32)), (0, .ref (ad 0)), (1, .int a1), (2, .int a2), (4, .int x4)]) hx hb dX10_isSome_78 rfl hl (by decide) rfl (fun ls hl => ?_)
                refine lv_iinc (v := x4 + (1 : Int32)) (lv' := [(4, .int (x4 + (1 : Int32))), (3, .int (0 : Int32)), (0, .ref (ad 0)), (1, .int a1), (2, .int a2)]) hx hb dX10_isSome_79 hl (k := 4) rfl rfl (by decide) rfl (fun ls hl => ?_)
                refine lv_goto (tgt := 5) hx hb dX10_isSome_82 (by decide) ?_
                exact ih0 _ _ _ h _ _ _ hP hS (lv_sub hl [2, 3, 4, 1, 0] rfl)
              · replace h := pt_iN c6009 h
                refine lv_goto (tgt := 73) hx hb dX10_isSome_59 (by decide) ?_
                refine lv_iconst (v := 1) hx hb dX10_isSome_73 (by decide) ?_
                refine lv_goto (tgt := 78) hx hb dX10_isSome_74 (by decide) ?_
                refine lv_istore_n (lv' := [(3, .int (1 : Int32)), (0, .ref (ad 0)), (1, .int a1), (2, .int a2), (4, .int x4)]) hx hb dX10_isSome_78 rfl hl (by decide) rfl (fun ls hl => ?_)
                refine lv_iinc (v := x4 + (1 : Int32)) (lv' := [(4, .int (x4 + (1 : Int32))), (3, .int (1 : Int32)), (0, .ref (ad 0)), (1, .int a1), (2, .int a2)]) hx hb dX10_isSome_79 hl (k := 4) rfl rfl (by decide) rfl (fun ls hl => ?_)
                refine lv_goto (tgt := 5) hx hb dX10_isSome_82 (by decide) ?_
                exact ih0 _ _ _ h _ _ _ hP hS (lv_sub hl [2, 3, 4, 1, 0] rfl)
            · replace h := pt_iN c6007 h
              refine lv_aload_n hx hb dX10_isSome_33 rfl (lv_at hl 0 rfl) ?_
              refine gf_X10_17 S hiX10 hK hP hf45 dX10_isSome_34 ?_
              refine lv_iload hx hb dX10_isSome_37 (lv_at hl 4 rfl) ?_
              refine ld_R_8 S hK hP g6006 dX10_isSome_39 ?_
              refine lv_iconst (v := 2) hx hb dX10_isSome_40 (by decide) ?_
              refine lv_icmp_ne (tgt := 77) hx hb dX10_isSome_41 (by decide) (fun c6010 => ?_) (fun c6010 => ?_)
              · replace h := pt_iN c6010 h
                refine lv_iconst (v := 0) hx hb dX10_isSome_77 (by decide) ?_
                refine lv_istore_n (lv' := [(3, .int (0 : Int32)), (0, .ref (ad 0)), (1, .int a1), (2, .int a2), (4, .int x4)]) hx hb dX10_isSome_78 rfl hl (by decide) rfl (fun ls hl => ?_)
                refine lv_iinc (v := x4 + (1 : Int32)) (lv' := [(4, .int (x4 + (1 : Int32))), (3, .int (0 : Int32)), (0, .ref (ad 0)), (1, .int a1), (2, .int a2)]) hx hb dX10_isSome_79 hl (k := 4) rfl rfl (by decide) rfl (fun ls hl => ?_)
                refine lv_goto (tgt := 5) hx hb dX10_isSome_82 (by decide) ?_
                exact ih0 _ _ _ h _ _ _ hP hS (lv_sub hl [2, 3, 4, 1, 0] rfl)
              · replace h := pt_ip c6010 h
                refine lv_aload_n hx hb dX10_isSome_44 rfl (lv_at hl 0 rfl) ?_
                refine gf_X10_25 S hiX10 hK hP hf63 dX10_isSome_45 ?_
                refine lv_aload_n hx hb dX10_isSome_48 rfl (lv_at hl 0 rfl) ?_
                refine gf_X10_18 S hiX10 hK hP hf48 dX10_isSome_49 ?_
                refine lv_iload hx hb dX10_isSome_52 (lv_at hl 4 rfl) ?_
                refine ld_R_9 S hK hP g6006 dX10_isSome_54 ?_
                replace h := pt_gd h; obtain ⟨g6011, h⟩ := h
                refine ld_R_14 S hK hP g6011 dX10_isSome_55 ?_
                refine lv_if_eq (tgt := 77) hx hb dX10_isSome_56 (by decide) (fun c6012 => ?_) (fun c6012 => ?_)
                · replace h := pt_ip c6012 h
                  refine lv_iconst (v := 0) hx hb dX10_isSome_77 (by decide) ?_
                  refine lv_istore_n (lv' := [(3, .int (0 : Int32)), (0, .ref (ad 0)), (1, .int a1), (2, .int a2), (4, .int x4)]) hx hb dX10_isSome_78 rfl hl (by decide) rfl (fun ls hl => ?_)
                  refine lv_iinc (v := x4 + (1 : Int32)) (lv' := [(4, .int (x4 + (1 : Int32))), (3, .int (0 : Int32)), (0, .ref (ad 0)), (1, .int a1), (2, .int a2)]) hx hb dX10_isSome_79 hl (k := 4) rfl rfl (by decide) rfl (fun ls hl => ?_)
                  refine lv_goto (tgt := 5) hx hb dX10_isSome_82 (by decide) ?_
                  exact ih0 _ _ _ h _ _ _ hP hS (lv_sub hl [2, 3, 4, 1, 0] rfl)
                · replace h := pt_iN c6012 h
                  refine lv_goto (tgt := 73) hx hb dX10_isSome_59 (by decide) ?_
                  refine lv_iconst (v := 1) hx hb dX10_isSome_73 (by decide) ?_
                  refine lv_goto (tgt := 78) hx hb dX10_isSome_74 (by decide) ?_
                  refine lv_istore_n (lv' := [(3, .int (1 : Int32)), (0, .ref (ad 0)), (1, .int a1), (2, .int a2), (4, .int x4)]) hx hb dX10_isSome_78 rfl hl (by decide) rfl (fun ls hl => ?_)
                  refine lv_iinc (v := x4 + (1 : Int32)) (lv' := [(4, .int (x4 + (1 : Int32))), (3, .int (1 : Int32)), (0, .ref (ad 0)), (1, .int a1), (2, .int a2)]) hx hb dX10_isSome_79 hl (k := 4) rfl rfl (by decide) rfl (fun ls hl => ?_)
                  refine lv_goto (tgt := 5) hx hb dX10_isSome_82 (by decide) ?_
                  exact ih0 _ _ _ h _ _ _ hP hS (lv_sub hl [2, 3, 4, 1, 0] rfl)
  exact L5 _ _ _ _ h _ _ _ hP hS (lv_sub hl [2, 3, 4, 1, 0] rfl)

def lp_X10_free_82 (k : pt_St → Int32 → Int32 → Option (Int32 × pt_St)) (a1 : Int32) : Nat → pt_St → Int32 → Int32 → Option (Int32 × pt_St)
  | 0, _, _, _ => none
  | n + 1, σ, x2, x3 =>
    if (σ 0 27) ≤ x3 then
    k σ x2 x3
    else
    if pt_in (x3 + (1 : Int32)) 40 then
    if pt_in x3 40 then
    pt_do (pt_put σ 15 x3.toNatClampNeg (σ 15 (x3 + (1 : Int32)).toNatClampNeg)) fun σ83004 =>
    lp_X10_free_82 k a1 n σ83004 x2 (x3 + (1 : Int32))
    else none
    else none
def kx_X10_free_82 (a1 : Int32) (σ : pt_St) (x2 : Int32) (x3 : Int32) : Option (Int32 × pt_St) :=
  pt_b1 (f_X10_takes σ a1 x2) fun σ83501 =>
  some ((1 : Int32), σ83501)
def f_X10_free (σ : pt_St) (a1 : Int32) : Option (Int32 × pt_St) :=
  if pt_in a1 6 then
  if (σ 13 a1.toNatClampNeg) = (0 : Int32) then
  pt_b2 (f_X10_isStopped σ) fun r3 σ3 =>
  if r3 = (0 : Int32) then
  if (σ3 0 30) = (σ3 0 16) then
  pt_b1 (f_X10_ends σ3 a1) fun σ6 =>
  some ((1 : Int32), σ6)
  else
  pt_b2 (f_X10_isSome σ3 (2 : Int32) (1 : Int32)) fun r7 σ7 =>
  if r7 = (0 : Int32) then
  if (σ7 0 27) ≤ (0 : Int32) then
  if (σ7 0 24) = (σ7 0 16) then
  some ((0 : Int32), σ7)
  else
  pt_do (pt_put σ7 0 24 ((σ7 0 24) + (1 : Int32))) fun σ11 =>
  pt_b1 (f_X10_takes σ11 a1 ((σ11 0 24) - (1 : Int32))) fun σ12 =>
  some ((1 : Int32), σ12)
  else
  pt_b2 (f_X10_isSome σ7 (2 : Int32) (0 : Int32)) fun r13 σ13 =>
  if r13 = (0 : Int32) then
  pt_do (pt_put σ13 0 27 ((σ13 0 27) - (1 : Int32))) fun σ15 =>
  lp_X10_free_82 (kx_X10_free_82 a1) a1 pt_F σ15 (σ13 15 (0 : Int32).toNatClampNeg) (0 : Int32)
  else
  some ((0 : Int32), σ13)
  else
  some ((0 : Int32), σ7)
  else
  pt_b1 (f_X10_ends σ3 a1) fun σ16 =>
  some ((1 : Int32), σ16)
  else
  pt_b1 (f_X10_ends σ a1) fun σ17 =>
  some ((1 : Int32), σ17)
  else none
set_option maxHeartbeats 4000000 in
set_option maxRecDepth 100000 in
theorem m_X10_free (l : Launch) {D : va_G} {A : Nat → Prop} {ca : Nat → ClassId} {ad : Nat → Nat} {z : Nat × Nat} (hDa : ∀ σ, va_D A (wR ca ad σ)) {σ σ' : pt_St} {r : Int32} {a1 : Int32} (h : f_X10_free σ a1 = some (r, σ')) : Met l yX10_free wsX10_free { frames := 3, cells := 0, slots := 0, locals := 65 } (va_Pc [.ref (ad 0), .int a1] (pt_Pre D (tysR ca) z A (wR ca ad σ))) (pt_Q (some (.int r)) D (wR ca ad σ') A) 0 0 A := by
  refine Met.ofW (cc := cX10_free) (maxL := 4) (ret := (some .int)) (by decide) rfl ?_
  intro p e s m args below meth c s₁ B hml hv
  obtain ⟨rfl, hP, hK, hZ⟩ := hv
  have S : CallFix p m c cX10_free 4 s ([.ref (ad 0), .int a1] : List Value).toArray wsX10_free RX10 := ⟨B.exec, B.bytes, hml, findClass_of_methodNamed B.named, atoms_spec (ws := wsX10_free) B.pre⟩
  have hx := S.1
  have hb := S.2.1
  have hr := B.returns
  have hlk := B.notSynchronized
  clear B
  have hiX10 : ∀ w ∈ wsX100, w ∈ wsX10_free := fun w h => List.mem_cons_of_mem _ (List.mem_append_right _ h)
  have hf60 : (Cond.fieldLink RX10 60 "PackThreadsModel" "isInterrupted" "[Z").before _ s = true := S.2.2.2.2 _ (List.mem_of_getElem? (i := 1) rfl)
  have hf136 : (Cond.fieldLink RX10 136 "PackThreadsModel" "joined" "I").before _ s = true := S.2.2.2.2 _ (List.mem_of_getElem? (i := 2) rfl)
  have hf121 : (Cond.fieldLink RX10 121 "PackThreadsModel" "blocks" "I").before _ s = true := S.2.2.2.2 _ (List.mem_of_getElem? (i := 3) rfl)
  have hf130 : (Cond.fieldLink RX10 130 "PackThreadsModel" "againMany" "I").before _ s = true := S.2.2.2.2 _ (List.mem_of_getElem? (i := 4) rfl)
  have hf127 : (Cond.fieldLink RX10 127 "PackThreadsModel" "never" "I").before _ s = true := S.2.2.2.2 _ (List.mem_of_getElem? (i := 6) rfl)
  have hf66 : (Cond.fieldLink RX10 66 "PackThreadsModel" "again" "[I").before _ s = true := S.2.2.2.2 _ (List.mem_of_getElem? (i := 5) rfl)
  have hS : va_S A s.heap s.heap [] := va_S.rf
  have hl := lv_entry ([.ref (ad 0), .int a1]) (n := 4) (Nat.le_of_ble_eq_true rfl)
  rw [lg_entry_eq]
  generalize (lg_sl ([.ref (ad 0), .int a1]) ++ List.replicate (4 - (lg_sl ([.ref (ad 0), .int a1])).length) Slot.unset).toArray = ls at hl ⊢
  have hl : lv_has ls 4 [(0, .ref (ad 0)), (1, .int a1)] := hl
  unfold f_X10_free at h
  refine lv_aload_n hx hb dX10_free_0 rfl (lv_at hl 0 rfl) ?_
  refine gf_X10_22 S hiX10 hK hP hf60 dX10_free_1 ?_
  refine lv_iload_n hx hb dX10_free_4 rfl (lv_at hl 1 rfl) ?_
  replace h := pt_gd h; obtain ⟨g1, h⟩ := h
  refine ld_R_13 S hK hP g1 dX10_free_5 ?_
  refine lv_if_ne (tgt := 27) hx hb dX10_free_6 (by decide) (fun c2 => ?_) (fun c2 => ?_)
  · replace h := pt_iN c2 h
    refine lv_aload_n hx hb dX10_free_27 rfl (lv_at hl 0 rfl) ?_
    refine lv_iload_n hx hb dX10_free_28 rfl (lv_at hl 1 rfl) ?_
    replace h := pt_b1s h; obtain ⟨σ17, e17, h⟩ := h
    refine pt_cVv (As := [.int a1]) (rest := []) S (m_X10_ends l hDa e17) (cwV 1 S.2.2.2.2 gX10_free_X10_ends rfl rfl rfl (by decide +kernel) ⟨Nat.le_of_ble_eq_true rfl, Nat.le_of_ble_eq_true rfl⟩) hK hP hS hZ 0 10 rfl rfl rfl hl.1 rfl (Nat.le_of_ble_eq_true rfl) dX10_free_29 ⟨Nat.zero_le _, Nat.zero_le _⟩ (fun H locs hP hS => ?_)
    refine lv_iconst (v := 1) hx hb dX10_free_32 (by decide) ?_
    exact pt_iret S hr hlk hP hS (pt_pr h).1 (congrArg (wR ca ad) (pt_pr h).2) dX10_free_33
  · replace h := pt_ip c2 h
    refine lv_aload_n hx hb dX10_free_9 rfl (lv_at hl 0 rfl) ?_
    replace h := pt_b2s h; obtain ⟨r3, σ3, e3, h⟩ := h
    refine pt_cVi (As := []) (rest := []) S (m_X10_isStopped l hDa e3) (cwV 0 S.2.2.2.2 gX10_free_X10_isStopped rfl rfl rfl (by decide +kernel) ⟨Nat.le_of_ble_eq_true rfl, Nat.le_of_ble_eq_true rfl⟩) hK hP hS hZ 0 10 rfl rfl rfl hl.1 rfl (Nat.le_of_ble_eq_true rfl) dX10_free_10 ⟨Nat.zero_le _, Nat.zero_le _⟩ (fun H locs hP hS => ?_)
    refine lv_if_ne (tgt := 27) hx hb dX10_free_13 (by decide) (fun c4 => ?_) (fun c4 => ?_)
    · replace h := pt_iN c4 h
      refine lv_aload_n hx hb dX10_free_27 rfl (lv_at hl 0 rfl) ?_
      refine lv_iload_n hx hb dX10_free_28 rfl (lv_at hl 1 rfl) ?_
      replace h := pt_b1s h; obtain ⟨σ16, e16, h⟩ := h
      refine pt_cVv (As := [.int a1]) (rest := []) S (m_X10_ends l hDa e16) (cwV 1 S.2.2.2.2 gX10_free_X10_ends rfl rfl rfl (by decide +kernel) ⟨Nat.le_of_ble_eq_true rfl, Nat.le_of_ble_eq_true rfl⟩) hK hP hS hZ 0 10 rfl rfl rfl hl.1 rfl (Nat.le_of_ble_eq_true rfl) dX10_free_29 ⟨Nat.zero_le _, Nat.zero_le _⟩ (fun H locs hP hS => ?_)
      refine lv_iconst (v := 1) hx hb dX10_free_32 (by decide) ?_
      exact pt_iret S hr hlk hP hS (pt_pr h).1 (congrArg (wR ca ad) (pt_pr h).2) dX10_free_33
    · replace h := pt_ip c4 h
      refine lv_aload_n hx hb dX10_free_16 rfl (lv_at hl 0 rfl) ?_
      refine gf_X10_30 S hiX10 hK hP hf136 dX10_free_17 ?_
      refine lv_aload_n hx hb dX10_free_20 rfl (lv_at hl 0 rfl) ?_
      refine gf_X10_16 S hiX10 hK hP hf121 dX10_free_21 ?_
      refine lv_icmp_ne (tgt := 34) hx hb dX10_free_24 (by decide) (fun c5 => ?_) (fun c5 => ?_)
      · replace h := pt_iN c5 h
        refine lv_aload_n hx hb dX10_free_34 rfl (lv_at hl 0 rfl) ?_
        refine lv_iconst (v := 2) hx hb dX10_free_35 (by decide) ?_
        refine lv_iconst (v := 1) hx hb dX10_free_36 (by decide) ?_
        replace h := pt_b2s h; obtain ⟨r7, σ7, e7, h⟩ := h
        refine pt_cVi (As := [.int (2 : Int32), .int (1 : Int32)]) (rest := []) S (m_X10_isSome l hDa e7) (cwV 2 S.2.2.2.2 gX10_free_X10_isSome rfl rfl rfl (by decide +kernel) ⟨Nat.le_of_ble_eq_true rfl, Nat.le_of_ble_eq_true rfl⟩) hK hP hS hZ 0 10 rfl rfl rfl hl.1 rfl (Nat.le_of_ble_eq_true rfl) dX10_free_37 ⟨Nat.zero_le _, Nat.zero_le _⟩ (fun H locs hP hS => ?_)
        refine lv_if_eq (tgt := 45) hx hb dX10_free_40 (by decide) (fun c8 => ?_) (fun c8 => ?_)
        · replace h := pt_ip c8 h
          refine lv_aload_n hx hb dX10_free_45 rfl (lv_at hl 0 rfl) ?_
          refine gf_X10_27 S hiX10 hK hP hf130 dX10_free_46 ?_
          refine lv_if_le (tgt := 118) hx hb dX10_free_49 (by decide) (fun c9 => ?_) (fun c9 => ?_)
          · replace h := pt_ip c9 h
            refine lv_aload_n hx hb dX10_free_118 rfl (lv_at hl 0 rfl) ?_
            refine gf_X10_24 S hiX10 hK hP hf127 dX10_free_119 ?_
            refine lv_aload_n hx hb dX10_free_122 rfl (lv_at hl 0 rfl) ?_
            refine gf_X10_16 S hiX10 hK hP hf121 dX10_free_123 ?_
            refine lv_icmp_ne (tgt := 131) hx hb dX10_free_126 (by decide) (fun c10 => ?_) (fun c10 => ?_)
            · replace h := pt_iN c10 h
              refine lv_aload_n hx hb dX10_free_131 rfl (lv_at hl 0 rfl) ?_
              refine lv_dup hx hb dX10_free_132 rfl ?_
              refine gf_X10_24 S hiX10 hK hP hf127 dX10_free_133 ?_
              refine lv_iconst (v := 1) hx hb dX10_free_136 (by decide) ?_
              refine lv_iadd hx hb dX10_free_137 ?_
              replace h := pt_dos h; obtain ⟨σ11, e11, h⟩ := h
              refine pf_X10_24 S hiX10 hK hP hDa hS hf127 e11 dX10_free_138 (fun H locs hP hS => ?_)
              refine lv_aload_n hx hb dX10_free_141 rfl (lv_at hl 0 rfl) ?_
              refine lv_iload_n hx hb dX10_free_142 rfl (lv_at hl 1 rfl) ?_
              refine lv_aload_n hx hb dX10_free_143 rfl (lv_at hl 0 rfl) ?_
              refine gf_X10_24 S hiX10 hK hP hf127 dX10_free_144 ?_
              refine lv_iconst (v := 1) hx hb dX10_free_147 (by decide) ?_
              refine lv_isub hx hb dX10_free_148 ?_
              replace h := pt_b1s h; obtain ⟨σ12, e12, h⟩ := h
              refine pt_cVv (As := [.int a1, .int ((σ11 0 24) - (1 : Int32))]) (rest := []) S (m_X10_takes l hDa e12) (cwV 2 S.2.2.2.2 gX10_free_X10_takes rfl rfl rfl (by decide +kernel) ⟨Nat.le_of_ble_eq_true rfl, Nat.le_of_ble_eq_true rfl⟩) hK hP hS hZ 0 10 rfl rfl rfl hl.1 rfl (Nat.le_of_ble_eq_true rfl) dX10_free_149 ⟨Nat.zero_le _, Nat.zero_le _⟩ (fun H locs hP hS => ?_)
              refine lv_iconst (v := 1) hx hb dX10_free_152 (by decide) ?_
              exact pt_iret S hr hlk hP hS (pt_pr h).1 (congrArg (wR ca ad) (pt_pr h).2) dX10_free_153
            · replace h := pt_ip c10 h
              refine lv_iconst (v := 0) hx hb dX10_free_129 (by decide) ?_
              exact pt_iret S hr hlk hP hS (pt_pr h).1 (congrArg (wR ca ad) (pt_pr h).2) dX10_free_130
          · replace h := pt_iN c9 h
            refine lv_aload_n hx hb dX10_free_52 rfl (lv_at hl 0 rfl) ?_
            refine lv_iconst (v := 2) hx hb dX10_free_53 (by decide) ?_
            refine lv_iconst (v := 0) hx hb dX10_free_54 (by decide) ?_
            replace h := pt_b2s h; obtain ⟨r13, σ13, e13, h⟩ := h
            refine pt_cVi (As := [.int (2 : Int32), .int (0 : Int32)]) (rest := []) S (m_X10_isSome l hDa e13) (cwV 2 S.2.2.2.2 gX10_free_X10_isSome rfl rfl rfl (by decide +kernel) ⟨Nat.le_of_ble_eq_true rfl, Nat.le_of_ble_eq_true rfl⟩) hK hP hS hZ 0 10 rfl rfl rfl hl.1 rfl (Nat.le_of_ble_eq_true rfl) dX10_free_55 ⟨Nat.zero_le _, Nat.zero_le _⟩ (fun H locs hP hS => ?_)
            refine lv_if_eq (tgt := 63) hx hb dX10_free_58 (by decide) (fun c14 => ?_) (fun c14 => ?_)
            · replace h := pt_ip c14 h
              refine lv_aload_n hx hb dX10_free_63 rfl (lv_at hl 0 rfl) ?_
              refine gf_X10_26 S hiX10 hK hP hf66 dX10_free_64 ?_
              refine lv_iconst (v := 0) hx hb dX10_free_67 (by decide) ?_
              refine ld_R_15 S hK hP (by decide) dX10_free_68 ?_
              refine lv_istore_n (lv' := [(2, .int (σ13 15 (0 : Int32).toNatClampNeg)), (0, .ref (ad 0)), (1, .int a1)]) hx hb dX10_free_69 rfl hl (by decide) rfl (fun ls hl => ?_)
              refine lv_aload_n hx hb dX10_free_70 rfl (lv_at hl 1 rfl) ?_
              refine lv_dup hx hb dX10_free_71 rfl ?_
              refine gf_X10_27 S hiX10 hK hP hf130 dX10_free_72 ?_
              refine lv_iconst (v := 1) hx hb dX10_free_75 (by decide) ?_
              refine lv_isub hx hb dX10_free_76 ?_
              replace h := pt_dos h; obtain ⟨σ15, e15, h⟩ := h
              refine pf_X10_27 S hiX10 hK hP hDa hS hf130 e15 dX10_free_77 (fun H locs hP hS => ?_)
              refine lv_iconst (v := 0) hx hb dX10_free_80 (by decide) ?_
              refine lv_istore_n (lv' := [(3, .int (0 : Int32)), (2, .int (σ13 15 (0 : Int32).toNatClampNeg)), (0, .ref (ad 0)), (1, .int a1)]) hx hb dX10_free_81 rfl hl (by decide) rfl (fun ls hl => ?_)
              have X82 : ∀ (σ : pt_St) (x2 : Int32) (x3 : Int32), kx_X10_free_82 a1 σ x2 x3 = some (r, σ') → ∀ (H : Heap) (locs : List Loc) (ls : Array Slot), va_P D vwCl (wR ca ad σ) H → va_S A s.heap H locs → lv_has ls 4 [(0, .ref (ad 0)), (1, .int a1), (2, .int x2), (3, .int x3)] → W p l e (headSpec wsX10_free { frames := 3, cells := 0, slots := 0, locals := 65 }).room s m ([.ref (ad 0), .int a1] : List Value).toArray below meth c H locs 0 0 (MQ below (pt_Q (some (.int r)) D (wR ca ad σ') A) ([.ref (ad 0), .int a1] : List Value).toArray s 0 0 A) (F0 m 110 ls []) := by
                intro σ x2 x3 h H locs ls hP hS hl
                unfold kx_X10_free_82 at h
                refine lv_aload_n hx hb dX10_free_110 rfl (lv_at hl 0 rfl) ?_
                refine lv_iload_n hx hb dX10_free_111 rfl (lv_at hl 1 rfl) ?_
                refine lv_iload_n hx hb dX10_free_112 rfl (lv_at hl 2 rfl) ?_
                replace h := pt_b1s h; obtain ⟨σ83501, e83501, h⟩ := h
                refine pt_cVv (As := [.int a1, .int x2]) (rest := []) S (m_X10_takes l hDa e83501) (cwV 2 S.2.2.2.2 gX10_free_X10_takes rfl rfl rfl (by decide +kernel) ⟨Nat.le_of_ble_eq_true rfl, Nat.le_of_ble_eq_true rfl⟩) hK hP hS hZ 0 10 rfl rfl rfl hl.1 rfl (Nat.le_of_ble_eq_true rfl) dX10_free_113 ⟨Nat.zero_le _, Nat.zero_le _⟩ (fun H locs hP hS => ?_)
                refine lv_iconst (v := 1) hx hb dX10_free_116 (by decide) ?_
                exact pt_iret S hr hlk hP hS (pt_pr h).1 (congrArg (wR ca ad) (pt_pr h).2) dX10_free_117
              have L82 : ∀ (n : Nat) (σ : pt_St) (x2 : Int32) (x3 : Int32),  lp_X10_free_82 (kx_X10_free_82 a1) a1 n σ x2 x3 = some (r, σ') → ∀ (H : Heap) (locs : List Loc) (ls : Array Slot), va_P D vwCl (wR ca ad σ) H → va_S A s.heap H locs → lv_has ls 4 [(0, .ref (ad 0)), (1, .int a1), (2, .int x2), (3, .int x3)] → W p l e (headSpec wsX10_free { frames := 3, cells := 0, slots := 0, locals := 65 }).room s m ([.ref (ad 0), .int a1] : List Value).toArray below meth c H locs 0 0 (MQ below (pt_Q (some (.int r)) D (wR ca ad σ') A) ([.ref (ad 0), .int a1] : List Value).toArray s 0 0 A) (F0 m 82 ls []) := by
                intro n
                induction n with
                | zero => intro σ x2 x3 h; cases h
                | succ n ih0 =>
                  intro σ x2 x3 h H locs ls hP hS hl
                  rw [lp_X10_free_82] at h
                  refine lv_iload_n hx hb dX10_free_82 rfl (lv_at hl 3 rfl) ?_
                  refine lv_aload_n hx hb dX10_free_83 rfl (lv_at hl 0 rfl) ?_
                  refine gf_X10_27 S hiX10 hK hP hf130 dX10_free_84 ?_
                  refine lv_icmp_ge (tgt := 110) hx hb dX10_free_87 (by decide) (fun c83001 => ?_) (fun c83001 => ?_)
                  · replace h := pt_ip c83001 h
                    exact X82 _ _ _ h _ _ _ hP hS (lv_sub hl [0, 1, 2, 3] rfl)
                  · replace h := pt_iN c83001 h
                    refine lv_aload_n hx hb dX10_free_90 rfl (lv_at hl 0 rfl) ?_
                    refine gf_X10_26 S hiX10 hK hP hf66 dX10_free_91 ?_
                    refine lv_iload_n hx hb dX10_free_94 rfl (lv_at hl 3 rfl) ?_
                    refine lv_aload_n hx hb dX10_free_95 rfl (lv_at hl 0 rfl) ?_
                    refine gf_X10_26 S hiX10 hK hP hf66 dX10_free_96 ?_
                    refine lv_iload_n hx hb dX10_free_99 rfl (lv_at hl 3 rfl) ?_
                    refine lv_iconst (v := 1) hx hb dX10_free_100 (by decide) ?_
                    refine lv_iadd hx hb dX10_free_101 ?_
                    replace h := pt_gd h; obtain ⟨g83002, h⟩ := h
                    refine ld_R_15 S hK hP g83002 dX10_free_102 ?_
                    replace h := pt_gd h; obtain ⟨g83003, h⟩ := h
                    replace h := pt_dos h; obtain ⟨σ83004, e83004, h⟩ := h
                    refine st_R_15 S hK hP hDa hS g83003 e83004 dX10_free_103 (fun H locs hP hS => ?_)
                    refine lv_iinc (v := x3 + (1 : Int32)) (lv' := [(3, .int (x3 + (1 : Int32))), (0, .ref (ad 0)), (1, .int a1), (2, .int x2)]) hx hb dX10_free_104 hl (k := 3) rfl rfl (by decide) rfl (fun ls hl => ?_)
                    refine lv_goto (tgt := 82) hx hb dX10_free_107 (by decide) ?_
                    exact ih0 _ _ _ h _ _ _ hP hS (lv_sub hl [1, 2, 3, 0] rfl)
              exact L82 _ _ _ _ h _ _ _ hP hS (lv_sub hl [2, 3, 1, 0] rfl)
            · replace h := pt_iN c14 h
              refine lv_iconst (v := 0) hx hb dX10_free_61 (by decide) ?_
              exact pt_iret S hr hlk hP hS (pt_pr h).1 (congrArg (wR ca ad) (pt_pr h).2) dX10_free_62
        · replace h := pt_iN c8 h
          refine lv_iconst (v := 0) hx hb dX10_free_43 (by decide) ?_
          exact pt_iret S hr hlk hP hS (pt_pr h).1 (congrArg (wR ca ad) (pt_pr h).2) dX10_free_44
      · replace h := pt_ip c5 h
        refine lv_aload_n hx hb dX10_free_27 rfl (lv_at hl 0 rfl) ?_
        refine lv_iload_n hx hb dX10_free_28 rfl (lv_at hl 1 rfl) ?_
        replace h := pt_b1s h; obtain ⟨σ6, e6, h⟩ := h
        refine pt_cVv (As := [.int a1]) (rest := []) S (m_X10_ends l hDa e6) (cwV 1 S.2.2.2.2 gX10_free_X10_ends rfl rfl rfl (by decide +kernel) ⟨Nat.le_of_ble_eq_true rfl, Nat.le_of_ble_eq_true rfl⟩) hK hP hS hZ 0 10 rfl rfl rfl hl.1 rfl (Nat.le_of_ble_eq_true rfl) dX10_free_29 ⟨Nat.zero_le _, Nat.zero_le _⟩ (fun H locs hP hS => ?_)
        refine lv_iconst (v := 1) hx hb dX10_free_32 (by decide) ?_
        exact pt_iret S hr hlk hP hS (pt_pr h).1 (congrArg (wR ca ad) (pt_pr h).2) dX10_free_33

def lp_X10_lays_59 (k : pt_St → Int32 → Option (Int32 × pt_St)) (a1 : Int32) : Nat → pt_St → Int32 → Option (Int32 × pt_St)
  | 0, _, _ => none
  | n + 1, σ, x2 =>
    if (σ 0 16) ≤ (σ 0 30) then
    k σ x2
    else
    if pt_in (σ 0 30) 40 then
    if (σ 16 (σ 0 30).toNatClampNeg) = (0 : Int32) then
    k σ x2
    else
    pt_do (pt_put σ 16 (σ 0 30).toNatClampNeg (vp_nar .boolean (0 : Int32))) fun σ60004 =>
    pt_do (pt_put σ60004 0 29 ((σ60004 0 29) - (1 : Int32))) fun σ60005 =>
    pt_do (pt_put σ60005 0 30 ((σ60005 0 30) + (1 : Int32))) fun σ60006 =>
    lp_X10_lays_59 k a1 n σ60006 x2
    else none
def kx_X10_lays_59 (a1 : Int32) (σ : pt_St) (x2 : Int32) : Option (Int32 × pt_St) :=
  some ((1 : Int32), σ)
def f_X10_lays (σ : pt_St) (a1 : Int32) : Option (Int32 × pt_St) :=
  if pt_in a1 6 then
  if (σ 9 a1.toNatClampNeg) = (σ 0 30) then
  if pt_in (σ 9 a1.toNatClampNeg) 40 then
  pt_do (pt_put σ 16 (σ 9 a1.toNatClampNeg).toNatClampNeg (vp_nar .boolean (1 : Int32))) fun σ4 =>
  pt_do (pt_put σ4 0 29 ((σ4 0 29) + (1 : Int32))) fun σ5 =>
  pt_do (pt_put σ5 8 a1.toNatClampNeg (0 : Int32)) fun σ6 =>
  pt_do (pt_put σ6 9 a1.toNatClampNeg (-1 : Int32)) fun σ7 =>
  lp_X10_lays_59 (kx_X10_lays_59 a1) a1 pt_F σ7 (σ 9 a1.toNatClampNeg)
  else none
  else
  if (σ 0 29) < (σ 0 5) then
  if pt_in (σ 9 a1.toNatClampNeg) 40 then
  pt_do (pt_put σ 16 (σ 9 a1.toNatClampNeg).toNatClampNeg (vp_nar .boolean (1 : Int32))) fun σ10 =>
  pt_do (pt_put σ10 0 29 ((σ10 0 29) + (1 : Int32))) fun σ11 =>
  pt_do (pt_put σ11 8 a1.toNatClampNeg (0 : Int32)) fun σ12 =>
  pt_do (pt_put σ12 9 a1.toNatClampNeg (-1 : Int32)) fun σ13 =>
  lp_X10_lays_59 (kx_X10_lays_59 a1) a1 pt_F σ13 (σ 9 a1.toNatClampNeg)
  else none
  else
  some ((0 : Int32), σ)
  else none
set_option maxHeartbeats 4000000 in
set_option maxRecDepth 100000 in
theorem m_X10_lays (l : Launch) {D : va_G} {A : Nat → Prop} {ca : Nat → ClassId} {ad : Nat → Nat} {z : Nat × Nat} (hDa : ∀ σ, va_D A (wR ca ad σ)) {σ σ' : pt_St} {r : Int32} {a1 : Int32} (h : f_X10_lays σ a1 = some (r, σ')) : Met l yX10_lays wsX10_lays { frames := 0, cells := 0, slots := 0, locals := 0 } (va_Pc [.ref (ad 0), .int a1] (pt_Pre D (tysR ca) z A (wR ca ad σ))) (pt_Q (some (.int r)) D (wR ca ad σ') A) 0 0 A := by
  refine Met.ofW (cc := cX10_lays) (maxL := 3) (ret := (some .int)) (by decide) rfl ?_
  intro p e s m args below meth c s₁ B hml hv
  obtain ⟨rfl, hP, hK, hZ⟩ := hv
  have S : CallFix p m c cX10_lays 3 s ([.ref (ad 0), .int a1] : List Value).toArray wsX10_lays RX10 := ⟨B.exec, B.bytes, hml, findClass_of_methodNamed B.named, atoms_spec (ws := wsX10_lays) B.pre⟩
  have hx := S.1
  have hb := S.2.1
  have hr := B.returns
  have hlk := B.notSynchronized
  clear B
  have hiX10 : ∀ w ∈ wsX100, w ∈ wsX10_lays := fun w h => List.mem_cons_of_mem _ (List.mem_append_right _ h)
  have hf48 : (Cond.fieldLink RX10 48 "PackThreadsModel" "block" "[I").before _ s = true := S.2.2.2.2 _ (List.mem_of_getElem? (i := 1) rfl)
  have hf136 : (Cond.fieldLink RX10 136 "PackThreadsModel" "joined" "I").before _ s = true := S.2.2.2.2 _ (List.mem_of_getElem? (i := 2) rfl)
  have hf69 : (Cond.fieldLink RX10 69 "PackThreadsModel" "inRow" "[Z").before _ s = true := S.2.2.2.2 _ (List.mem_of_getElem? (i := 5) rfl)
  have hf133 : (Cond.fieldLink RX10 133 "PackThreadsModel" "rowMany" "I").before _ s = true := S.2.2.2.2 _ (List.mem_of_getElem? (i := 3) rfl)
  have hf45 : (Cond.fieldLink RX10 45 "PackThreadsModel" "state" "[I").before _ s = true := S.2.2.2.2 _ (List.mem_of_getElem? (i := 6) rfl)
  have hf121 : (Cond.fieldLink RX10 121 "PackThreadsModel" "blocks" "I").before _ s = true := S.2.2.2.2 _ (List.mem_of_getElem? (i := 7) rfl)
  have hf23 : (Cond.fieldLink RX10 23 "PackThreadsModel" "most" "I").before _ s = true := S.2.2.2.2 _ (List.mem_of_getElem? (i := 4) rfl)
  have hS : va_S A s.heap s.heap [] := va_S.rf
  have hl := lv_entry ([.ref (ad 0), .int a1]) (n := 3) (Nat.le_of_ble_eq_true rfl)
  rw [lg_entry_eq]
  generalize (lg_sl ([.ref (ad 0), .int a1]) ++ List.replicate (3 - (lg_sl ([.ref (ad 0), .int a1])).length) Slot.unset).toArray = ls at hl ⊢
  have hl : lv_has ls 3 [(0, .ref (ad 0)), (1, .int a1)] := hl
  unfold f_X10_lays at h
  refine lv_aload_n hx hb dX10_lays_0 rfl (lv_at hl 0 rfl) ?_
  refine gf_X10_18 S hiX10 hK hP hf48 dX10_lays_1 ?_
  refine lv_iload_n hx hb dX10_lays_4 rfl (lv_at hl 1 rfl) ?_
  replace h := pt_gd h; obtain ⟨g1, h⟩ := h
  refine ld_R_9 S hK hP g1 dX10_lays_5 ?_
  refine lv_istore_n (lv' := [(2, .int (σ 9 a1.toNatClampNeg)), (0, .ref (ad 0)), (1, .int a1)]) hx hb dX10_lays_6 rfl hl (by decide) rfl (fun ls hl => ?_)
  refine lv_iload_n hx hb dX10_lays_7 rfl (lv_at hl 0 rfl) ?_
  refine lv_aload_n hx hb dX10_lays_8 rfl (lv_at hl 1 rfl) ?_
  refine gf_X10_30 S hiX10 hK hP hf136 dX10_lays_9 ?_
  refine lv_icmp_eq (tgt := 28) hx hb dX10_lays_12 (by decide) (fun c2 => ?_) (fun c2 => ?_)
  · replace h := pt_ip c2 h
    refine lv_aload_n hx hb dX10_lays_28 rfl (lv_at hl 1 rfl) ?_
    refine gf_X10_28 S hiX10 hK hP hf69 dX10_lays_29 ?_
    refine lv_iload_n hx hb dX10_lays_32 rfl (lv_at hl 0 rfl) ?_
    refine lv_iconst (v := 1) hx hb dX10_lays_33 (by decide) ?_
    replace h := pt_gd h; obtain ⟨g3, h⟩ := h
    replace h := pt_dos h; obtain ⟨σ4, e4, h⟩ := h
    refine st_R_16 S hK hP hDa hS g3 e4 dX10_lays_34 (fun H locs hP hS => ?_)
    refine lv_aload_n hx hb dX10_lays_35 rfl (lv_at hl 1 rfl) ?_
    refine lv_dup hx hb dX10_lays_36 rfl ?_
    refine gf_X10_29 S hiX10 hK hP hf133 dX10_lays_37 ?_
    refine lv_iconst (v := 1) hx hb dX10_lays_40 (by decide) ?_
    refine lv_iadd hx hb dX10_lays_41 ?_
    replace h := pt_dos h; obtain ⟨σ5, e5, h⟩ := h
    refine pf_X10_29 S hiX10 hK hP hDa hS hf133 e5 dX10_lays_42 (fun H locs hP hS => ?_)
    refine lv_aload_n hx hb dX10_lays_45 rfl (lv_at hl 1 rfl) ?_
    refine gf_X10_17 S hiX10 hK hP hf45 dX10_lays_46 ?_
    refine lv_iload_n hx hb dX10_lays_49 rfl (lv_at hl 2 rfl) ?_
    refine lv_iconst (v := 0) hx hb dX10_lays_50 (by decide) ?_
    replace h := pt_dos h; obtain ⟨σ6, e6, h⟩ := h
    refine st_R_8 S hK hP hDa hS g1 e6 dX10_lays_51 (fun H locs hP hS => ?_)
    refine lv_aload_n hx hb dX10_lays_52 rfl (lv_at hl 1 rfl) ?_
    refine gf_X10_18 S hiX10 hK hP hf48 dX10_lays_53 ?_
    refine lv_iload_n hx hb dX10_lays_56 rfl (lv_at hl 2 rfl) ?_
    refine lv_iconst (v := -1) hx hb dX10_lays_57 (by decide) ?_
    replace h := pt_dos h; obtain ⟨σ7, e7, h⟩ := h
    refine st_R_9 S hK hP hDa hS g1 e7 dX10_lays_58 (fun H locs hP hS => ?_)
    have X59 : ∀ (σ : pt_St) (x2 : Int32), kx_X10_lays_59 a1 σ x2 = some (r, σ') → ∀ (H : Heap) (locs : List Loc) (ls : Array Slot), va_P D vwCl (wR ca ad σ) H → va_S A s.heap H locs → lv_has ls 3 [(0, .ref (ad 0)), (1, .int a1), (2, .int x2)] → W p l e (headSpec wsX10_lays { frames := 0, cells := 0, slots := 0, locals := 0 }).room s m ([.ref (ad 0), .int a1] : List Value).toArray below meth c H locs 0 0 (MQ below (pt_Q (some (.int r)) D (wR ca ad σ') A) ([.ref (ad 0), .int a1] : List Value).toArray s 0 0 A) (F0 m 115 ls []) := by
      intro σ x2 h H locs ls hP hS hl
      unfold kx_X10_lays_59 at h
      refine lv_iconst (v := 1) hx hb dX10_lays_115 (by decide) ?_
      exact pt_iret S hr hlk hP hS (pt_pr h).1 (congrArg (wR ca ad) (pt_pr h).2) dX10_lays_116
    have L59 : ∀ (n : Nat) (σ : pt_St) (x2 : Int32),  lp_X10_lays_59 (kx_X10_lays_59 a1) a1 n σ x2 = some (r, σ') → ∀ (H : Heap) (locs : List Loc) (ls : Array Slot), va_P D vwCl (wR ca ad σ) H → va_S A s.heap H locs → lv_has ls 3 [(0, .ref (ad 0)), (1, .int a1), (2, .int x2)] → W p l e (headSpec wsX10_lays { frames := 0, cells := 0, slots := 0, locals := 0 }).room s m ([.ref (ad 0), .int a1] : List Value).toArray below meth c H locs 0 0 (MQ below (pt_Q (some (.int r)) D (wR ca ad σ') A) ([.ref (ad 0), .int a1] : List Value).toArray s 0 0 A) (F0 m 59 ls []) := by
      intro n
      induction n with
      | zero => intro σ x2 h; cases h
      | succ n ih0 =>
        intro σ x2 h H locs ls hP hS hl
        rw [lp_X10_lays_59] at h
        refine lv_aload_n hx hb dX10_lays_59 rfl (lv_at hl 0 rfl) ?_
        refine gf_X10_30 S hiX10 hK hP hf136 dX10_lays_60 ?_
        refine lv_aload_n hx hb dX10_lays_63 rfl (lv_at hl 0 rfl) ?_
        refine gf_X10_16 S hiX10 hK hP hf121 dX10_lays_64 ?_
        refine lv_icmp_ge (tgt := 115) hx hb dX10_lays_67 (by decide) (fun c60001 => ?_) (fun c60001 => ?_)
        · replace h := pt_ip c60001 h
          exact X59 _ _ h _ _ _ hP hS (lv_sub hl [0, 1, 2] rfl)
        · replace h := pt_iN c60001 h
          refine lv_aload_n hx hb dX10_lays_70 rfl (lv_at hl 0 rfl) ?_
          refine gf_X10_28 S hiX10 hK hP hf69 dX10_lays_71 ?_
          refine lv_aload_n hx hb dX10_lays_74 rfl (lv_at hl 0 rfl) ?_
          refine gf_X10_30 S hiX10 hK hP hf136 dX10_lays_75 ?_
          replace h := pt_gd h; obtain ⟨g60002, h⟩ := h
          refine ld_R_16 S hK hP g60002 dX10_lays_78 ?_
          refine lv_if_eq (tgt := 115) hx hb dX10_lays_79 (by decide) (fun c60003 => ?_) (fun c60003 => ?_)
          · replace h := pt_ip c60003 h
            exact X59 _ _ h _ _ _ hP hS (lv_sub hl [0, 1, 2] rfl)
          · replace h := pt_iN c60003 h
            refine lv_aload_n hx hb dX10_lays_82 rfl (lv_at hl 0 rfl) ?_
            refine gf_X10_28 S hiX10 hK hP hf69 dX10_lays_83 ?_
            refine lv_aload_n hx hb dX10_lays_86 rfl (lv_at hl 0 rfl) ?_
            refine gf_X10_30 S hiX10 hK hP hf136 dX10_lays_87 ?_
            refine lv_iconst (v := 0) hx hb dX10_lays_90 (by decide) ?_
            replace h := pt_dos h; obtain ⟨σ60004, e60004, h⟩ := h
            refine st_R_16 S hK hP hDa hS g60002 e60004 dX10_lays_91 (fun H locs hP hS => ?_)
            refine lv_aload_n hx hb dX10_lays_92 rfl (lv_at hl 0 rfl) ?_
            refine lv_dup hx hb dX10_lays_93 rfl ?_
            refine gf_X10_29 S hiX10 hK hP hf133 dX10_lays_94 ?_
            refine lv_iconst (v := 1) hx hb dX10_lays_97 (by decide) ?_
            refine lv_isub hx hb dX10_lays_98 ?_
            replace h := pt_dos h; obtain ⟨σ60005, e60005, h⟩ := h
            refine pf_X10_29 S hiX10 hK hP hDa hS hf133 e60005 dX10_lays_99 (fun H locs hP hS => ?_)
            refine lv_aload_n hx hb dX10_lays_102 rfl (lv_at hl 0 rfl) ?_
            refine lv_dup hx hb dX10_lays_103 rfl ?_
            refine gf_X10_30 S hiX10 hK hP hf136 dX10_lays_104 ?_
            refine lv_iconst (v := 1) hx hb dX10_lays_107 (by decide) ?_
            refine lv_iadd hx hb dX10_lays_108 ?_
            replace h := pt_dos h; obtain ⟨σ60006, e60006, h⟩ := h
            refine pf_X10_30 S hiX10 hK hP hDa hS hf136 e60006 dX10_lays_109 (fun H locs hP hS => ?_)
            refine lv_goto (tgt := 59) hx hb dX10_lays_112 (by decide) ?_
            exact ih0 _ _ h _ _ _ hP hS (lv_sub hl [0, 1, 2] rfl)
    exact L59 _ _ _ h _ _ _ hP hS (lv_sub hl [1, 2, 0] rfl)
  · replace h := pt_iN c2 h
    refine lv_aload_n hx hb dX10_lays_15 rfl (lv_at hl 1 rfl) ?_
    refine gf_X10_29 S hiX10 hK hP hf133 dX10_lays_16 ?_
    refine lv_aload_n hx hb dX10_lays_19 rfl (lv_at hl 1 rfl) ?_
    refine gf_X10_5 S hiX10 hK hP hf23 dX10_lays_20 ?_
    refine lv_icmp_lt (tgt := 28) hx hb dX10_lays_23 (by decide) (fun c8 => ?_) (fun c8 => ?_)
    · replace h := pt_ip c8 h
      refine lv_aload_n hx hb dX10_lays_28 rfl (lv_at hl 1 rfl) ?_
      refine gf_X10_28 S hiX10 hK hP hf69 dX10_lays_29 ?_
      refine lv_iload_n hx hb dX10_lays_32 rfl (lv_at hl 0 rfl) ?_
      refine lv_iconst (v := 1) hx hb dX10_lays_33 (by decide) ?_
      replace h := pt_gd h; obtain ⟨g9, h⟩ := h
      replace h := pt_dos h; obtain ⟨σ10, e10, h⟩ := h
      refine st_R_16 S hK hP hDa hS g9 e10 dX10_lays_34 (fun H locs hP hS => ?_)
      refine lv_aload_n hx hb dX10_lays_35 rfl (lv_at hl 1 rfl) ?_
      refine lv_dup hx hb dX10_lays_36 rfl ?_
      refine gf_X10_29 S hiX10 hK hP hf133 dX10_lays_37 ?_
      refine lv_iconst (v := 1) hx hb dX10_lays_40 (by decide) ?_
      refine lv_iadd hx hb dX10_lays_41 ?_
      replace h := pt_dos h; obtain ⟨σ11, e11, h⟩ := h
      refine pf_X10_29 S hiX10 hK hP hDa hS hf133 e11 dX10_lays_42 (fun H locs hP hS => ?_)
      refine lv_aload_n hx hb dX10_lays_45 rfl (lv_at hl 1 rfl) ?_
      refine gf_X10_17 S hiX10 hK hP hf45 dX10_lays_46 ?_
      refine lv_iload_n hx hb dX10_lays_49 rfl (lv_at hl 2 rfl) ?_
      refine lv_iconst (v := 0) hx hb dX10_lays_50 (by decide) ?_
      replace h := pt_dos h; obtain ⟨σ12, e12, h⟩ := h
      refine st_R_8 S hK hP hDa hS g1 e12 dX10_lays_51 (fun H locs hP hS => ?_)
      refine lv_aload_n hx hb dX10_lays_52 rfl (lv_at hl 1 rfl) ?_
      refine gf_X10_18 S hiX10 hK hP hf48 dX10_lays_53 ?_
      refine lv_iload_n hx hb dX10_lays_56 rfl (lv_at hl 2 rfl) ?_
      refine lv_iconst (v := -1) hx hb dX10_lays_57 (by decide) ?_
      replace h := pt_dos h; obtain ⟨σ13, e13, h⟩ := h
      refine st_R_9 S hK hP hDa hS g1 e13 dX10_lays_58 (fun H locs hP hS => ?_)
      have X59 : ∀ (σ : pt_St) (x2 : Int32), kx_X10_lays_59 a1 σ x2 = some (r, σ') → ∀ (H : Heap) (locs : List Loc) (ls : Array Slot), va_P D vwCl (wR ca ad σ) H → va_S A s.heap H locs → lv_has ls 3 [(0, .ref (ad 0)), (1, .int a1), (2, .int x2)] → W p l e (headSpec wsX10_lays { frames := 0, cells := 0, slots := 0, locals := 0 }).room s m ([.ref (ad 0), .int a1] : List Value).toArray below meth c H locs 0 0 (MQ below (pt_Q (some (.int r)) D (wR ca ad σ') A) ([.ref (ad 0), .int a1] : List Value).toArray s 0 0 A) (F0 m 115 ls []) := by
        intro σ x2 h H locs ls hP hS hl
        unfold kx_X10_lays_59 at h
        refine lv_iconst (v := 1) hx hb dX10_lays_115 (by decide) ?_
        exact pt_iret S hr hlk hP hS (pt_pr h).1 (congrArg (wR ca ad) (pt_pr h).2) dX10_lays_116
      have L59 : ∀ (n : Nat) (σ : pt_St) (x2 : Int32),  lp_X10_lays_59 (kx_X10_lays_59 a1) a1 n σ x2 = some (r, σ') → ∀ (H : Heap) (locs : List Loc) (ls : Array Slot), va_P D vwCl (wR ca ad σ) H → va_S A s.heap H locs → lv_has ls 3 [(0, .ref (ad 0)), (1, .int a1), (2, .int x2)] → W p l e (headSpec wsX10_lays { frames := 0, cells := 0, slots := 0, locals := 0 }).room s m ([.ref (ad 0), .int a1] : List Value).toArray below meth c H locs 0 0 (MQ below (pt_Q (some (.int r)) D (wR ca ad σ') A) ([.ref (ad 0), .int a1] : List Value).toArray s 0 0 A) (F0 m 59 ls []) := by
        intro n
        induction n with
        | zero => intro σ x2 h; cases h
        | succ n ih0 =>
          intro σ x2 h H locs ls hP hS hl
          rw [lp_X10_lays_59] at h
          refine lv_aload_n hx hb dX10_lays_59 rfl (lv_at hl 0 rfl) ?_
          refine gf_X10_30 S hiX10 hK hP hf136 dX10_lays_60 ?_
          refine lv_aload_n hx hb dX10_lays_63 rfl (lv_at hl 0 rfl) ?_
          refine gf_X10_16 S hiX10 hK hP hf121 dX10_lays_64 ?_
          refine lv_icmp_ge (tgt := 115) hx hb dX10_lays_67 (by decide) (fun c60001 => ?_) (fun c60001 => ?_)
          · replace h := pt_ip c60001 h
            exact X59 _ _ h _ _ _ hP hS (lv_sub hl [0, 1, 2] rfl)
          · replace h := pt_iN c60001 h
            refine lv_aload_n hx hb dX10_lays_70 rfl (lv_at hl 0 rfl) ?_
            refine gf_X10_28 S hiX10 hK hP hf69 dX10_lays_71 ?_
            refine lv_aload_n hx hb dX10_lays_74 rfl (lv_at hl 0 rfl) ?_
            refine gf_X10_30 S hiX10 hK hP hf136 dX10_lays_75 ?_
            replace h := pt_gd h; obtain ⟨g60002, h⟩ := h
            refine ld_R_16 S hK hP g60002 dX10_lays_78 ?_
            refine lv_if_eq (tgt := 115) hx hb dX10_lays_79 (by decide) (fun c60003 => ?_) (fun c60003 => ?_)
            · replace h := pt_ip c60003 h
              exact X59 _ _ h _ _ _ hP hS (lv_sub hl [0, 1, 2] rfl)
            · replace h := pt_iN c60003 h
              refine lv_aload_n hx hb dX10_lays_82 rfl (lv_at hl 0 rfl) ?_
              refine gf_X10_28 S hiX10 hK hP hf69 dX10_lays_83 ?_
              refine lv_aload_n hx hb dX10_lays_86 rfl (lv_at hl 0 rfl) ?_
              refine gf_X10_30 S hiX10 hK hP hf136 dX10_lays_87 ?_
              refine lv_iconst (v := 0) hx hb dX10_lays_90 (by decide) ?_
              replace h := pt_dos h; obtain ⟨σ60004, e60004, h⟩ := h
              refine st_R_16 S hK hP hDa hS g60002 e60004 dX10_lays_91 (fun H locs hP hS => ?_)
              refine lv_aload_n hx hb dX10_lays_92 rfl (lv_at hl 0 rfl) ?_
              refine lv_dup hx hb dX10_lays_93 rfl ?_
              refine gf_X10_29 S hiX10 hK hP hf133 dX10_lays_94 ?_
              refine lv_iconst (v := 1) hx hb dX10_lays_97 (by decide) ?_
              refine lv_isub hx hb dX10_lays_98 ?_
              replace h := pt_dos h; obtain ⟨σ60005, e60005, h⟩ := h
              refine pf_X10_29 S hiX10 hK hP hDa hS hf133 e60005 dX10_lays_99 (fun H locs hP hS => ?_)
              refine lv_aload_n hx hb dX10_lays_102 rfl (lv_at hl 0 rfl) ?_
              refine lv_dup hx hb dX10_lays_103 rfl ?_
              refine gf_X10_30 S hiX10 hK hP hf136 dX10_lays_104 ?_
              refine lv_iconst (v := 1) hx hb dX10_lays_107 (by decide) ?_
              refine lv_iadd hx hb dX10_lays_108 ?_
              replace h := pt_dos h; obtain ⟨σ60006, e60006, h⟩ := h
              refine pf_X10_30 S hiX10 hK hP hDa hS hf136 e60006 dX10_lays_109 (fun H locs hP hS => ?_)
              refine lv_goto (tgt := 59) hx hb dX10_lays_112 (by decide) ?_
              exact ih0 _ _ h _ _ _ hP hS (lv_sub hl [0, 1, 2] rfl)
      exact L59 _ _ _ h _ _ _ hP hS (lv_sub hl [1, 2, 0] rfl)
    · replace h := pt_iN c8 h
      refine lv_iconst (v := 0) hx hb dX10_lays_26 (by decide) ?_
      exact pt_iret S hr hlk hP hS (pt_pr h).1 (congrArg (wR ca ad) (pt_pr h).2) dX10_lays_27

def f_X10_work (σ : pt_St) (a1 : Int32) : Option (Int32 × pt_St) :=
  if pt_in a1 6 then
  pt_b2 (f_X10_lengthOf σ (σ 9 a1.toNatClampNeg)) fun r2 σ2 =>
  pt_b2 (f_X10_isStopped σ2) fun r3 σ3 =>
  if r3 = (0 : Int32) then
  if pt_in (σ 9 a1.toNatClampNeg) 40 then
  if (σ3 2 (σ 9 a1.toNatClampNeg).toNatClampNeg) ≤ (0 : Int32) then
  pt_do (pt_put σ3 10 a1.toNatClampNeg ((σ3 10 a1.toNatClampNeg) + (1 : Int32))) fun σ7 =>
  if (σ7 10 a1.toNatClampNeg) = (σ7 7 (σ 9 a1.toNatClampNeg).toNatClampNeg) then
  pt_do (pt_put σ7 11 a1.toNatClampNeg ((σ7 11 a1.toNatClampNeg) + (1 : Int32))) fun σ9 =>
  pt_do (pt_put σ9 8 a1.toNatClampNeg (3 : Int32)) fun σ10 =>
  pt_b1 (f_X10_givesBack σ10 r2) fun σ11 =>
  pt_b2 (f_X10_lays σ11 a1) fun r12 σ12 =>
  some ((1 : Int32), σ12)
  else
  some ((1 : Int32), σ7)
  else
  if (σ3 3 (σ 9 a1.toNatClampNeg).toNatClampNeg) = (σ3 10 a1.toNatClampNeg) then
  if (σ3 14 (σ 9 a1.toNatClampNeg).toNatClampNeg) = (0 : Int32) then
  pt_do (pt_put σ3 0 36 ((σ3 0 36) + (1 : Int32))) fun σ15 =>
  pt_do (pt_put σ15 8 a1.toNatClampNeg (0 : Int32)) fun σ16 =>
  pt_do (pt_put σ16 9 a1.toNatClampNeg (-1 : Int32)) fun σ17 =>
  if (σ17 14 (σ 9 a1.toNatClampNeg).toNatClampNeg) = (0 : Int32) then
  pt_do (pt_put σ17 14 (σ 9 a1.toNatClampNeg).toNatClampNeg (vp_nar .boolean (1 : Int32))) fun σ19 =>
  if pt_in (σ19 0 27) 40 then
  pt_do (pt_put σ19 15 (σ19 0 27).toNatClampNeg (σ 9 a1.toNatClampNeg)) fun σ21 =>
  pt_do (pt_put σ21 0 27 ((σ21 0 27) + (1 : Int32))) fun σ22 =>
  pt_b1 (f_X10_givesBack σ22 r2) fun σ23 =>
  some ((1 : Int32), σ23)
  else none
  else
  pt_do (pt_put σ17 0 34 (σ 9 a1.toNatClampNeg)) fun σ24 =>
  pt_do (pt_put σ24 0 35 (σ24 2 (σ 9 a1.toNatClampNeg).toNatClampNeg)) fun σ25 =>
  pt_b1 (f_X10_givesBack σ25 r2) fun σ26 =>
  some ((1 : Int32), σ26)
  else
  if (σ3 4 (σ 9 a1.toNatClampNeg).toNatClampNeg) = (0 : Int32) then
  pt_do (pt_put σ3 10 a1.toNatClampNeg ((σ3 10 a1.toNatClampNeg) + (1 : Int32))) fun σ28 =>
  if (σ28 10 a1.toNatClampNeg) = (σ28 7 (σ 9 a1.toNatClampNeg).toNatClampNeg) then
  pt_do (pt_put σ28 11 a1.toNatClampNeg ((σ28 11 a1.toNatClampNeg) + (1 : Int32))) fun σ30 =>
  pt_do (pt_put σ30 8 a1.toNatClampNeg (3 : Int32)) fun σ31 =>
  pt_b1 (f_X10_givesBack σ31 r2) fun σ32 =>
  pt_b2 (f_X10_lays σ32 a1) fun r33 σ33 =>
  some ((1 : Int32), σ33)
  else
  some ((1 : Int32), σ28)
  else
  pt_do (pt_put σ3 0 36 ((σ3 0 36) + (1 : Int32))) fun σ34 =>
  pt_do (pt_put σ34 8 a1.toNatClampNeg (0 : Int32)) fun σ35 =>
  pt_do (pt_put σ35 9 a1.toNatClampNeg (-1 : Int32)) fun σ36 =>
  if (σ36 14 (σ 9 a1.toNatClampNeg).toNatClampNeg) = (0 : Int32) then
  pt_do (pt_put σ36 14 (σ 9 a1.toNatClampNeg).toNatClampNeg (vp_nar .boolean (1 : Int32))) fun σ38 =>
  if pt_in (σ38 0 27) 40 then
  pt_do (pt_put σ38 15 (σ38 0 27).toNatClampNeg (σ 9 a1.toNatClampNeg)) fun σ40 =>
  pt_do (pt_put σ40 0 27 ((σ40 0 27) + (1 : Int32))) fun σ41 =>
  pt_b1 (f_X10_givesBack σ41 r2) fun σ42 =>
  some ((1 : Int32), σ42)
  else none
  else
  pt_do (pt_put σ36 0 34 (σ 9 a1.toNatClampNeg)) fun σ43 =>
  pt_do (pt_put σ43 0 35 (σ43 2 (σ 9 a1.toNatClampNeg).toNatClampNeg)) fun σ44 =>
  pt_b1 (f_X10_givesBack σ44 r2) fun σ45 =>
  some ((1 : Int32), σ45)
  else
  pt_do (pt_put σ3 10 a1.toNatClampNeg ((σ3 10 a1.toNatClampNeg) + (1 : Int32))) fun σ46 =>
  if (σ46 10 a1.toNatClampNeg) = (σ46 7 (σ 9 a1.toNatClampNeg).toNatClampNeg) then
  pt_do (pt_put σ46 11 a1.toNatClampNeg ((σ46 11 a1.toNatClampNeg) + (1 : Int32))) fun σ48 =>
  pt_do (pt_put σ48 8 a1.toNatClampNeg (3 : Int32)) fun σ49 =>
  pt_b1 (f_X10_givesBack σ49 r2) fun σ50 =>
  pt_b2 (f_X10_lays σ50 a1) fun r51 σ51 =>
  some ((1 : Int32), σ51)
  else
  some ((1 : Int32), σ46)
  else none
  else
  pt_b1 (f_X10_ends σ3 a1) fun σ52 =>
  pt_b1 (f_X10_givesBack σ52 r2) fun σ53 =>
  some ((1 : Int32), σ53)
  else none
set_option maxHeartbeats 4000000 in
set_option maxRecDepth 100000 in
theorem m_X10_work (l : Launch) {D : va_G} {A : Nat → Prop} {ca : Nat → ClassId} {ad : Nat → Nat} {z : Nat × Nat} (hDa : ∀ σ, va_D A (wR ca ad σ)) {σ σ' : pt_St} {r : Int32} {a1 : Int32} (h : f_X10_work σ a1 = some (r, σ')) : Met l yX10_work wsX10_work { frames := 3, cells := 0, slots := 0, locals := 65 } (va_Pc [.ref (ad 0), .int a1] (pt_Pre D (tysR ca) z A (wR ca ad σ))) (pt_Q (some (.int r)) D (wR ca ad σ') A) 0 0 A := by
  refine Met.ofW (cc := cX10_work) (maxL := 5) (ret := (some .int)) (by decide) rfl ?_
  intro p e s m args below meth c s₁ B hml hv
  obtain ⟨rfl, hP, hK, hZ⟩ := hv
  have S : CallFix p m c cX10_work 5 s ([.ref (ad 0), .int a1] : List Value).toArray wsX10_work RX10 := ⟨B.exec, B.bytes, hml, findClass_of_methodNamed B.named, atoms_spec (ws := wsX10_work) B.pre⟩
  have hx := S.1
  have hb := S.2.1
  have hr := B.returns
  have hlk := B.notSynchronized
  clear B
  have hiX10 : ∀ w ∈ wsX100, w ∈ wsX10_work := fun w h => List.mem_cons_of_mem _ (List.mem_append_right _ h)
  have hf48 : (Cond.fieldLink RX10 48 "PackThreadsModel" "block" "[I").before _ s = true := S.2.2.2.2 _ (List.mem_of_getElem? (i := 1) rfl)
  have hf26 : (Cond.fieldLink RX10 26 "PackThreadsModel" "plantKind" "[I").before _ s = true := S.2.2.2.2 _ (List.mem_of_getElem? (i := 2) rfl)
  have hf51 : (Cond.fieldLink RX10 51 "PackThreadsModel" "step" "[I").before _ s = true := S.2.2.2.2 _ (List.mem_of_getElem? (i := 4) rfl)
  have hf42 : (Cond.fieldLink RX10 42 "PackThreadsModel" "tokens" "[I").before _ s = true := S.2.2.2.2 _ (List.mem_of_getElem? (i := 13) rfl)
  have hf54 : (Cond.fieldLink RX10 54 "PackThreadsModel" "made" "[I").before _ s = true := S.2.2.2.2 _ (List.mem_of_getElem? (i := 14) rfl)
  have hf45 : (Cond.fieldLink RX10 45 "PackThreadsModel" "state" "[I").before _ s = true := S.2.2.2.2 _ (List.mem_of_getElem? (i := 8) rfl)
  have hf29 : (Cond.fieldLink RX10 29 "PackThreadsModel" "plantStep" "[I").before _ s = true := S.2.2.2.2 _ (List.mem_of_getElem? (i := 3) rfl)
  have hf63 : (Cond.fieldLink RX10 63 "PackThreadsModel" "hasFailed" "[Z").before _ s = true := S.2.2.2.2 _ (List.mem_of_getElem? (i := 5) rfl)
  have hf151 : (Cond.fieldLink RX10 151 "PackThreadsModel" "failures" "I").before _ s = true := S.2.2.2.2 _ (List.mem_of_getElem? (i := 7) rfl)
  have hf66 : (Cond.fieldLink RX10 66 "PackThreadsModel" "again" "[I").before _ s = true := S.2.2.2.2 _ (List.mem_of_getElem? (i := 11) rfl)
  have hf130 : (Cond.fieldLink RX10 130 "PackThreadsModel" "againMany" "I").before _ s = true := S.2.2.2.2 _ (List.mem_of_getElem? (i := 12) rfl)
  have hf145 : (Cond.fieldLink RX10 145 "PackThreadsModel" "stopBlock" "I").before _ s = true := S.2.2.2.2 _ (List.mem_of_getElem? (i := 9) rfl)
  have hf148 : (Cond.fieldLink RX10 148 "PackThreadsModel" "stopKind" "I").before _ s = true := S.2.2.2.2 _ (List.mem_of_getElem? (i := 10) rfl)
  have hf32 : (Cond.fieldLink RX10 32 "PackThreadsModel" "plantTwice" "[Z").before _ s = true := S.2.2.2.2 _ (List.mem_of_getElem? (i := 6) rfl)
  have hS : va_S A s.heap s.heap [] := va_S.rf
  have hl := lv_entry ([.ref (ad 0), .int a1]) (n := 5) (Nat.le_of_ble_eq_true rfl)
  rw [lg_entry_eq]
  generalize (lg_sl ([.ref (ad 0), .int a1]) ++ List.replicate (5 - (lg_sl ([.ref (ad 0), .int a1])).length) Slot.unset).toArray = ls at hl ⊢
  have hl : lv_has ls 5 [(0, .ref (ad 0)), (1, .int a1)] := hl
  unfold f_X10_work at h
  refine lv_aload_n hx hb dX10_work_0 rfl (lv_at hl 0 rfl) ?_
  refine gf_X10_18 S hiX10 hK hP hf48 dX10_work_1 ?_
  refine lv_iload_n hx hb dX10_work_4 rfl (lv_at hl 1 rfl) ?_
  replace h := pt_gd h; obtain ⟨g1, h⟩ := h
  refine ld_R_9 S hK hP g1 dX10_work_5 ?_
  refine lv_istore_n (lv' := [(2, .int (σ 9 a1.toNatClampNeg)), (0, .ref (ad 0)), (1, .int a1)]) hx hb dX10_work_6 rfl hl (by decide) rfl (fun ls hl => ?_)
  refine lv_aload_n hx hb dX10_work_7 rfl (lv_at hl 1 rfl) ?_
  refine lv_iload_n hx hb dX10_work_8 rfl (lv_at hl 0 rfl) ?_
  replace h := pt_b2s h; obtain ⟨r2, σ2, e2, h⟩ := h
  refine pt_cVi (As := [.int (σ 9 a1.toNatClampNeg)]) (rest := []) S (m_X10_lengthOf l hDa e2) (cwV 1 S.2.2.2.2 gX10_work_X10_lengthOf rfl rfl rfl (by decide +kernel) ⟨Nat.le_of_ble_eq_true rfl, Nat.le_of_ble_eq_true rfl⟩) hK hP hS hZ 0 10 rfl rfl rfl hl.1 rfl (Nat.le_of_ble_eq_true rfl) dX10_work_9 ⟨Nat.zero_le _, Nat.zero_le _⟩ (fun H locs hP hS => ?_)
  refine lv_istore_n (lv' := [(3, .int r2), (2, .int (σ 9 a1.toNatClampNeg)), (0, .ref (ad 0)), (1, .int a1)]) hx hb dX10_work_12 rfl hl (by decide) rfl (fun ls hl => ?_)
  refine lv_aload_n hx hb dX10_work_13 rfl (lv_at hl 2 rfl) ?_
  replace h := pt_b2s h; obtain ⟨r3, σ3, e3, h⟩ := h
  refine pt_cVi (As := []) (rest := []) S (m_X10_isStopped l hDa e3) (cwV 0 S.2.2.2.2 gX10_work_X10_isStopped rfl rfl rfl (by decide +kernel) ⟨Nat.le_of_ble_eq_true rfl, Nat.le_of_ble_eq_true rfl⟩) hK hP hS hZ 0 10 rfl rfl rfl hl.1 rfl (Nat.le_of_ble_eq_true rfl) dX10_work_14 ⟨Nat.zero_le _, Nat.zero_le _⟩ (fun H locs hP hS => ?_)
  refine lv_if_eq (tgt := 32) hx hb dX10_work_17 (by decide) (fun c4 => ?_) (fun c4 => ?_)
  · replace h := pt_ip c4 h
    refine lv_aload_n hx hb dX10_work_32 rfl (lv_at hl 2 rfl) ?_
    refine gf_X10_6 S hiX10 hK hP hf26 dX10_work_33 ?_
    refine lv_iload_n hx hb dX10_work_36 rfl (lv_at hl 1 rfl) ?_
    replace h := pt_gd h; obtain ⟨g5, h⟩ := h
    refine ld_R_2 S hK hP g5 dX10_work_37 ?_
    refine lv_if_le (tgt := 159) hx hb dX10_work_38 (by decide) (fun c6 => ?_) (fun c6 => ?_)
    · replace h := pt_ip c6 h
      refine lv_aload_n hx hb dX10_work_159 rfl (lv_at hl 2 rfl) ?_
      refine gf_X10_19 S hiX10 hK hP hf51 dX10_work_160 ?_
      refine lv_iload_n hx hb dX10_work_163 rfl (lv_at hl 3 rfl) ?_
      refine lv_dup2_11 hx hb dX10_work_164 rfl rfl ?_
      refine ld_R_10 S hK hP g1 dX10_work_165 ?_
      refine lv_iconst (v := 1) hx hb dX10_work_166 (by decide) ?_
      refine lv_iadd hx hb dX10_work_167 ?_
      replace h := pt_dos h; obtain ⟨σ7, e7, h⟩ := h
      refine st_R_10 S hK hP hDa hS g1 e7 dX10_work_168 (fun H locs hP hS => ?_)
      refine lv_aload_n hx hb dX10_work_169 rfl (lv_at hl 2 rfl) ?_
      refine gf_X10_19 S hiX10 hK hP hf51 dX10_work_170 ?_
      refine lv_iload_n hx hb dX10_work_173 rfl (lv_at hl 3 rfl) ?_
      refine ld_R_10 S hK hP g1 dX10_work_174 ?_
      refine lv_aload_n hx hb dX10_work_175 rfl (lv_at hl 2 rfl) ?_
      refine gf_X10_13 S hiX10 hK hP hf42 dX10_work_176 ?_
      refine lv_iload_n hx hb dX10_work_179 rfl (lv_at hl 1 rfl) ?_
      refine ld_R_7 S hK hP g5 dX10_work_180 ?_
      refine lv_icmp_ne (tgt := 213) hx hb dX10_work_181 (by decide) (fun c8 => ?_) (fun c8 => ?_)
      · replace h := pt_iN c8 h
        refine lv_iconst (v := 1) hx hb dX10_work_213 (by decide) ?_
        exact pt_iret S hr hlk hP hS (pt_pr h).1 (congrArg (wR ca ad) (pt_pr h).2) dX10_work_214
      · replace h := pt_ip c8 h
        refine lv_aload_n hx hb dX10_work_184 rfl (lv_at hl 2 rfl) ?_
        refine gf_X10_20 S hiX10 hK hP hf54 dX10_work_185 ?_
        refine lv_iload_n hx hb dX10_work_188 rfl (lv_at hl 3 rfl) ?_
        refine lv_dup2_11 hx hb dX10_work_189 rfl rfl ?_
        refine ld_R_11 S hK hP g1 dX10_work_190 ?_
        refine lv_iconst (v := 1) hx hb dX10_work_191 (by decide) ?_
        refine lv_iadd hx hb dX10_work_192 ?_
        replace h := pt_dos h; obtain ⟨σ9, e9, h⟩ := h
        refine st_R_11 S hK hP hDa hS g1 e9 dX10_work_193 (fun H locs hP hS => ?_)
        refine lv_aload_n hx hb dX10_work_194 rfl (lv_at hl 2 rfl) ?_
        refine gf_X10_17 S hiX10 hK hP hf45 dX10_work_195 ?_
        refine lv_iload_n hx hb dX10_work_198 rfl (lv_at hl 3 rfl) ?_
        refine lv_iconst (v := 3) hx hb dX10_work_199 (by decide) ?_
        replace h := pt_dos h; obtain ⟨σ10, e10, h⟩ := h
        refine st_R_8 S hK hP hDa hS g1 e10 dX10_work_200 (fun H locs hP hS => ?_)
        refine lv_aload_n hx hb dX10_work_201 rfl (lv_at hl 2 rfl) ?_
        refine lv_iload_n hx hb dX10_work_202 rfl (lv_at hl 0 rfl) ?_
        replace h := pt_b1s h; obtain ⟨σ11, e11, h⟩ := h
        refine pt_cVv (As := [.int r2]) (rest := []) S (m_X10_givesBack l hDa e11) (cwV 1 S.2.2.2.2 gX10_work_X10_givesBack rfl rfl rfl (by decide +kernel) ⟨Nat.le_of_ble_eq_true rfl, Nat.le_of_ble_eq_true rfl⟩) hK hP hS hZ 0 10 rfl rfl rfl hl.1 rfl (Nat.le_of_ble_eq_true rfl) dX10_work_203 ⟨Nat.zero_le _, Nat.zero_le _⟩ (fun H locs hP hS => ?_)
        refine lv_aload_n hx hb dX10_work_206 rfl (lv_at hl 2 rfl) ?_
        refine lv_iload_n hx hb dX10_work_207 rfl (lv_at hl 3 rfl) ?_
        replace h := pt_b2s h; obtain ⟨r12, σ12, e12, h⟩ := h
        refine pt_cVi (As := [.int a1]) (rest := []) S (m_X10_lays l hDa e12) (cwV 1 S.2.2.2.2 gX10_work_X10_lays rfl rfl rfl (by decide +kernel) ⟨Nat.le_of_ble_eq_true rfl, Nat.le_of_ble_eq_true rfl⟩) hK hP hS hZ 0 10 rfl rfl rfl hl.1 rfl (Nat.le_of_ble_eq_true rfl) dX10_work_208 ⟨Nat.zero_le _, Nat.zero_le _⟩ (fun H locs hP hS => ?_)
        refine lv_istore (lv' := [(4, .int r12), (3, .int r2), (2, .int (σ 9 a1.toNatClampNeg)), (0, .ref (ad 0)), (1, .int a1)]) hx hb dX10_work_211 hl (by decide) rfl (fun ls hl => ?_)
        refine lv_iconst (v := 1) hx hb dX10_work_213 (by decide) ?_
        exact pt_iret S hr hlk hP hS (pt_pr h).1 (congrArg (wR ca ad) (pt_pr h).2) dX10_work_214
    · replace h := pt_iN c6 h
      refine lv_aload_n hx hb dX10_work_41 rfl (lv_at hl 2 rfl) ?_
      refine gf_X10_7 S hiX10 hK hP hf29 dX10_work_42 ?_
      refine lv_iload_n hx hb dX10_work_45 rfl (lv_at hl 1 rfl) ?_
      refine ld_R_3 S hK hP g5 dX10_work_46 ?_
      refine lv_aload_n hx hb dX10_work_47 rfl (lv_at hl 2 rfl) ?_
      refine gf_X10_19 S hiX10 hK hP hf51 dX10_work_48 ?_
      refine lv_iload_n hx hb dX10_work_51 rfl (lv_at hl 3 rfl) ?_
      refine ld_R_10 S hK hP g1 dX10_work_52 ?_
      refine lv_icmp_ne (tgt := 159) hx hb dX10_work_53 (by decide) (fun c13 => ?_) (fun c13 => ?_)
      · replace h := pt_iN c13 h
        refine lv_aload_n hx hb dX10_work_159 rfl (lv_at hl 2 rfl) ?_
        refine gf_X10_19 S hiX10 hK hP hf51 dX10_work_160 ?_
        refine lv_iload_n hx hb dX10_work_163 rfl (lv_at hl 3 rfl) ?_
        refine lv_dup2_11 hx hb dX10_work_164 rfl rfl ?_
        refine ld_R_10 S hK hP g1 dX10_work_165 ?_
        refine lv_iconst (v := 1) hx hb dX10_work_166 (by decide) ?_
        refine lv_iadd hx hb dX10_work_167 ?_
        replace h := pt_dos h; obtain ⟨σ46, e46, h⟩ := h
        refine st_R_10 S hK hP hDa hS g1 e46 dX10_work_168 (fun H locs hP hS => ?_)
        refine lv_aload_n hx hb dX10_work_169 rfl (lv_at hl 2 rfl) ?_
        refine gf_X10_19 S hiX10 hK hP hf51 dX10_work_170 ?_
        refine lv_iload_n hx hb dX10_work_173 rfl (lv_at hl 3 rfl) ?_
        refine ld_R_10 S hK hP g1 dX10_work_174 ?_
        refine lv_aload_n hx hb dX10_work_175 rfl (lv_at hl 2 rfl) ?_
        refine gf_X10_13 S hiX10 hK hP hf42 dX10_work_176 ?_
        refine lv_iload_n hx hb dX10_work_179 rfl (lv_at hl 1 rfl) ?_
        refine ld_R_7 S hK hP g5 dX10_work_180 ?_
        refine lv_icmp_ne (tgt := 213) hx hb dX10_work_181 (by decide) (fun c47 => ?_) (fun c47 => ?_)
        · replace h := pt_iN c47 h
          refine lv_iconst (v := 1) hx hb dX10_work_213 (by decide) ?_
          exact pt_iret S hr hlk hP hS (pt_pr h).1 (congrArg (wR ca ad) (pt_pr h).2) dX10_work_214
        · replace h := pt_ip c47 h
          refine lv_aload_n hx hb dX10_work_184 rfl (lv_at hl 2 rfl) ?_
          refine gf_X10_20 S hiX10 hK hP hf54 dX10_work_185 ?_
          refine lv_iload_n hx hb dX10_work_188 rfl (lv_at hl 3 rfl) ?_
          refine lv_dup2_11 hx hb dX10_work_189 rfl rfl ?_
          refine ld_R_11 S hK hP g1 dX10_work_190 ?_
          refine lv_iconst (v := 1) hx hb dX10_work_191 (by decide) ?_
          refine lv_iadd hx hb dX10_work_192 ?_
          replace h := pt_dos h; obtain ⟨σ48, e48, h⟩ := h
          refine st_R_11 S hK hP hDa hS g1 e48 dX10_work_193 (fun H locs hP hS => ?_)
          refine lv_aload_n hx hb dX10_work_194 rfl (lv_at hl 2 rfl) ?_
          refine gf_X10_17 S hiX10 hK hP hf45 dX10_work_195 ?_
          refine lv_iload_n hx hb dX10_work_198 rfl (lv_at hl 3 rfl) ?_
          refine lv_iconst (v := 3) hx hb dX10_work_199 (by decide) ?_
          replace h := pt_dos h; obtain ⟨σ49, e49, h⟩ := h
          refine st_R_8 S hK hP hDa hS g1 e49 dX10_work_200 (fun H locs hP hS => ?_)
          refine lv_aload_n hx hb dX10_work_201 rfl (lv_at hl 2 rfl) ?_
          refine lv_iload_n hx hb dX10_work_202 rfl (lv_at hl 0 rfl) ?_
          replace h := pt_b1s h; obtain ⟨σ50, e50, h⟩ := h
          refine pt_cVv (As := [.int r2]) (rest := []) S (m_X10_givesBack l hDa e50) (cwV 1 S.2.2.2.2 gX10_work_X10_givesBack rfl rfl rfl (by decide +kernel) ⟨Nat.le_of_ble_eq_true rfl, Nat.le_of_ble_eq_true rfl⟩) hK hP hS hZ 0 10 rfl rfl rfl hl.1 rfl (Nat.le_of_ble_eq_true rfl) dX10_work_203 ⟨Nat.zero_le _, Nat.zero_le _⟩ (fun H locs hP hS => ?_)
          refine lv_aload_n hx hb dX10_work_206 rfl (lv_at hl 2 rfl) ?_
          refine lv_iload_n hx hb dX10_work_207 rfl (lv_at hl 3 rfl) ?_
          replace h := pt_b2s h; obtain ⟨r51, σ51, e51, h⟩ := h
          refine pt_cVi (As := [.int a1]) (rest := []) S (m_X10_lays l hDa e51) (cwV 1 S.2.2.2.2 gX10_work_X10_lays rfl rfl rfl (by decide +kernel) ⟨Nat.le_of_ble_eq_true rfl, Nat.le_of_ble_eq_true rfl⟩) hK hP hS hZ 0 10 rfl rfl rfl hl.1 rfl (Nat.le_of_ble_eq_true rfl) dX10_work_208 ⟨Nat.zero_le _, Nat.zero_le _⟩ (fun H locs hP hS => ?_)
          refine lv_istore (lv' := [(4, .int r51), (3, .int r2), (2, .int (σ 9 a1.toNatClampNeg)), (0, .ref (ad 0)), (1, .int a1)]) hx hb dX10_work_211 hl (by decide) rfl (fun ls hl => ?_)
          refine lv_iconst (v := 1) hx hb dX10_work_213 (by decide) ?_
          exact pt_iret S hr hlk hP hS (pt_pr h).1 (congrArg (wR ca ad) (pt_pr h).2) dX10_work_214
      · replace h := pt_ip c13 h
        refine lv_aload_n hx hb dX10_work_56 rfl (lv_at hl 2 rfl) ?_
        refine gf_X10_25 S hiX10 hK hP hf63 dX10_work_57 ?_
        refine lv_iload_n hx hb dX10_work_60 rfl (lv_at hl 1 rfl) ?_
        refine ld_R_14 S hK hP g5 dX10_work_61 ?_
        refine lv_if_eq (tgt := 74) hx hb dX10_work_62 (by decide) (fun c14 => ?_) (fun c14 => ?_)
        · replace h := pt_ip c14 h
          refine lv_aload_n hx hb dX10_work_74 rfl (lv_at hl 2 rfl) ?_
          refine lv_dup hx hb dX10_work_75 rfl ?_
          refine gf_X10_36 S hiX10 hK hP hf151 dX10_work_76 ?_
          refine lv_iconst (v := 1) hx hb dX10_work_79 (by decide) ?_
          refine lv_iadd hx hb dX10_work_80 ?_
          replace h := pt_dos h; obtain ⟨σ15, e15, h⟩ := h
          refine pf_X10_36 S hiX10 hK hP hDa hS hf151 e15 dX10_work_81 (fun H locs hP hS => ?_)
          refine lv_aload_n hx hb dX10_work_84 rfl (lv_at hl 2 rfl) ?_
          refine gf_X10_17 S hiX10 hK hP hf45 dX10_work_85 ?_
          refine lv_iload_n hx hb dX10_work_88 rfl (lv_at hl 3 rfl) ?_
          refine lv_iconst (v := 0) hx hb dX10_work_89 (by decide) ?_
          replace h := pt_dos h; obtain ⟨σ16, e16, h⟩ := h
          refine st_R_8 S hK hP hDa hS g1 e16 dX10_work_90 (fun H locs hP hS => ?_)
          refine lv_aload_n hx hb dX10_work_91 rfl (lv_at hl 2 rfl) ?_
          refine gf_X10_18 S hiX10 hK hP hf48 dX10_work_92 ?_
          refine lv_iload_n hx hb dX10_work_95 rfl (lv_at hl 3 rfl) ?_
          refine lv_iconst (v := -1) hx hb dX10_work_96 (by decide) ?_
          replace h := pt_dos h; obtain ⟨σ17, e17, h⟩ := h
          refine st_R_9 S hK hP hDa hS g1 e17 dX10_work_97 (fun H locs hP hS => ?_)
          refine lv_aload_n hx hb dX10_work_98 rfl (lv_at hl 2 rfl) ?_
          refine gf_X10_25 S hiX10 hK hP hf63 dX10_work_99 ?_
          refine lv_iload_n hx hb dX10_work_102 rfl (lv_at hl 1 rfl) ?_
          refine ld_R_14 S hK hP g5 dX10_work_103 ?_
          refine lv_if_eq (tgt := 125) hx hb dX10_work_104 (by decide) (fun c18 => ?_) (fun c18 => ?_)
          · replace h := pt_ip c18 h
            refine lv_aload_n hx hb dX10_work_125 rfl (lv_at hl 2 rfl) ?_
            refine gf_X10_25 S hiX10 hK hP hf63 dX10_work_126 ?_
            refine lv_iload_n hx hb dX10_work_129 rfl (lv_at hl 1 rfl) ?_
            refine lv_iconst (v := 1) hx hb dX10_work_130 (by decide) ?_
            replace h := pt_dos h; obtain ⟨σ19, e19, h⟩ := h
            refine st_R_14 S hK hP hDa hS g5 e19 dX10_work_131 (fun H locs hP hS => ?_)
            refine lv_aload_n hx hb dX10_work_132 rfl (lv_at hl 2 rfl) ?_
            refine gf_X10_26 S hiX10 hK hP hf66 dX10_work_133 ?_
            refine lv_aload_n hx hb dX10_work_136 rfl (lv_at hl 2 rfl) ?_
            refine gf_X10_27 S hiX10 hK hP hf130 dX10_work_137 ?_
            refine lv_iload_n hx hb dX10_work_140 rfl (lv_at hl 1 rfl) ?_
            replace h := pt_gd h; obtain ⟨g20, h⟩ := h
            replace h := pt_dos h; obtain ⟨σ21, e21, h⟩ := h
            refine st_R_15 S hK hP hDa hS g20 e21 dX10_work_141 (fun H locs hP hS => ?_)
            refine lv_aload_n hx hb dX10_work_142 rfl (lv_at hl 2 rfl) ?_
            refine lv_dup hx hb dX10_work_143 rfl ?_
            refine gf_X10_27 S hiX10 hK hP hf130 dX10_work_144 ?_
            refine lv_iconst (v := 1) hx hb dX10_work_147 (by decide) ?_
            refine lv_iadd hx hb dX10_work_148 ?_
            replace h := pt_dos h; obtain ⟨σ22, e22, h⟩ := h
            refine pf_X10_27 S hiX10 hK hP hDa hS hf130 e22 dX10_work_149 (fun H locs hP hS => ?_)
            refine lv_aload_n hx hb dX10_work_152 rfl (lv_at hl 2 rfl) ?_
            refine lv_iload_n hx hb dX10_work_153 rfl (lv_at hl 0 rfl) ?_
            replace h := pt_b1s h; obtain ⟨σ23, e23, h⟩ := h
            refine pt_cVv (As := [.int r2]) (rest := []) S (m_X10_givesBack l hDa e23) (cwV 1 S.2.2.2.2 gX10_work_X10_givesBack rfl rfl rfl (by decide +kernel) ⟨Nat.le_of_ble_eq_true rfl, Nat.le_of_ble_eq_true rfl⟩) hK hP hS hZ 0 10 rfl rfl rfl hl.1 rfl (Nat.le_of_ble_eq_true rfl) dX10_work_154 ⟨Nat.zero_le _, Nat.zero_le _⟩ (fun H locs hP hS => ?_)
            refine lv_iconst (v := 1) hx hb dX10_work_157 (by decide) ?_
            exact pt_iret S hr hlk hP hS (pt_pr h).1 (congrArg (wR ca ad) (pt_pr h).2) dX10_work_158
          · replace h := pt_iN c18 h
            refine lv_aload_n hx hb dX10_work_107 rfl (lv_at hl 2 rfl) ?_
            refine lv_iload_n hx hb dX10_work_108 rfl (lv_at hl 1 rfl) ?_
            replace h := pt_dos h; obtain ⟨σ24, e24, h⟩ := h
            refine pf_X10_34 S hiX10 hK hP hDa hS hf145 e24 dX10_work_109 (fun H locs hP hS => ?_)
            refine lv_aload_n hx hb dX10_work_112 rfl (lv_at hl 2 rfl) ?_
            refine lv_aload_n hx hb dX10_work_113 rfl (lv_at hl 2 rfl) ?_
            refine gf_X10_6 S hiX10 hK hP hf26 dX10_work_114 ?_
            refine lv_iload_n hx hb dX10_work_117 rfl (lv_at hl 1 rfl) ?_
            refine ld_R_2 S hK hP g5 dX10_work_118 ?_
            replace h := pt_dos h; obtain ⟨σ25, e25, h⟩ := h
            refine pf_X10_35 S hiX10 hK hP hDa hS hf148 e25 dX10_work_119 (fun H locs hP hS => ?_)
            refine lv_goto (tgt := 152) hx hb dX10_work_122 (by decide) ?_
            refine lv_aload_n hx hb dX10_work_152 rfl (lv_at hl 2 rfl) ?_
            refine lv_iload_n hx hb dX10_work_153 rfl (lv_at hl 0 rfl) ?_
            replace h := pt_b1s h; obtain ⟨σ26, e26, h⟩ := h
            refine pt_cVv (As := [.int r2]) (rest := []) S (m_X10_givesBack l hDa e26) (cwV 1 S.2.2.2.2 gX10_work_X10_givesBack rfl rfl rfl (by decide +kernel) ⟨Nat.le_of_ble_eq_true rfl, Nat.le_of_ble_eq_true rfl⟩) hK hP hS hZ 0 10 rfl rfl rfl hl.1 rfl (Nat.le_of_ble_eq_true rfl) dX10_work_154 ⟨Nat.zero_le _, Nat.zero_le _⟩ (fun H locs hP hS => ?_)
            refine lv_iconst (v := 1) hx hb dX10_work_157 (by decide) ?_
            exact pt_iret S hr hlk hP hS (pt_pr h).1 (congrArg (wR ca ad) (pt_pr h).2) dX10_work_158
        · replace h := pt_iN c14 h
          refine lv_aload_n hx hb dX10_work_65 rfl (lv_at hl 2 rfl) ?_
          refine gf_X10_8 S hiX10 hK hP hf32 dX10_work_66 ?_
          refine lv_iload_n hx hb dX10_work_69 rfl (lv_at hl 1 rfl) ?_
          refine ld_R_4 S hK hP g5 dX10_work_70 ?_
          refine lv_if_eq (tgt := 159) hx hb dX10_work_71 (by decide) (fun c27 => ?_) (fun c27 => ?_)
          · replace h := pt_ip c27 h
            refine lv_aload_n hx hb dX10_work_159 rfl (lv_at hl 2 rfl) ?_
            refine gf_X10_19 S hiX10 hK hP hf51 dX10_work_160 ?_
            refine lv_iload_n hx hb dX10_work_163 rfl (lv_at hl 3 rfl) ?_
            refine lv_dup2_11 hx hb dX10_work_164 rfl rfl ?_
            refine ld_R_10 S hK hP g1 dX10_work_165 ?_
            refine lv_iconst (v := 1) hx hb dX10_work_166 (by decide) ?_
            refine lv_iadd hx hb dX10_work_167 ?_
            replace h := pt_dos h; obtain ⟨σ28, e28, h⟩ := h
            refine st_R_10 S hK hP hDa hS g1 e28 dX10_work_168 (fun H locs hP hS => ?_)
            refine lv_aload_n hx hb dX10_work_169 rfl (lv_at hl 2 rfl) ?_
            refine gf_X10_19 S hiX10 hK hP hf51 dX10_work_170 ?_
            refine lv_iload_n hx hb dX10_work_173 rfl (lv_at hl 3 rfl) ?_
            refine ld_R_10 S hK hP g1 dX10_work_174 ?_
            refine lv_aload_n hx hb dX10_work_175 rfl (lv_at hl 2 rfl) ?_
            refine gf_X10_13 S hiX10 hK hP hf42 dX10_work_176 ?_
            refine lv_iload_n hx hb dX10_work_179 rfl (lv_at hl 1 rfl) ?_
            refine ld_R_7 S hK hP g5 dX10_work_180 ?_
            refine lv_icmp_ne (tgt := 213) hx hb dX10_work_181 (by decide) (fun c29 => ?_) (fun c29 => ?_)
            · replace h := pt_iN c29 h
              refine lv_iconst (v := 1) hx hb dX10_work_213 (by decide) ?_
              exact pt_iret S hr hlk hP hS (pt_pr h).1 (congrArg (wR ca ad) (pt_pr h).2) dX10_work_214
            · replace h := pt_ip c29 h
              refine lv_aload_n hx hb dX10_work_184 rfl (lv_at hl 2 rfl) ?_
              refine gf_X10_20 S hiX10 hK hP hf54 dX10_work_185 ?_
              refine lv_iload_n hx hb dX10_work_188 rfl (lv_at hl 3 rfl) ?_
              refine lv_dup2_11 hx hb dX10_work_189 rfl rfl ?_
              refine ld_R_11 S hK hP g1 dX10_work_190 ?_
              refine lv_iconst (v := 1) hx hb dX10_work_191 (by decide) ?_
              refine lv_iadd hx hb dX10_work_192 ?_
              replace h := pt_dos h; obtain ⟨σ30, e30, h⟩ := h
              refine st_R_11 S hK hP hDa hS g1 e30 dX10_work_193 (fun H locs hP hS => ?_)
              refine lv_aload_n hx hb dX10_work_194 rfl (lv_at hl 2 rfl) ?_
              refine gf_X10_17 S hiX10 hK hP hf45 dX10_work_195 ?_
              refine lv_iload_n hx hb dX10_work_198 rfl (lv_at hl 3 rfl) ?_
              refine lv_iconst (v := 3) hx hb dX10_work_199 (by decide) ?_
              replace h := pt_dos h; obtain ⟨σ31, e31, h⟩ := h
              refine st_R_8 S hK hP hDa hS g1 e31 dX10_work_200 (fun H locs hP hS => ?_)
              refine lv_aload_n hx hb dX10_work_201 rfl (lv_at hl 2 rfl) ?_
              refine lv_iload_n hx hb dX10_work_202 rfl (lv_at hl 0 rfl) ?_
              replace h := pt_b1s h; obtain ⟨σ32, e32, h⟩ := h
              refine pt_cVv (As := [.int r2]) (rest := []) S (m_X10_givesBack l hDa e32) (cwV 1 S.2.2.2.2 gX10_work_X10_givesBack rfl rfl rfl (by decide +kernel) ⟨Nat.le_of_ble_eq_true rfl, Nat.le_of_ble_eq_true rfl⟩) hK hP hS hZ 0 10 rfl rfl rfl hl.1 rfl (Nat.le_of_ble_eq_true rfl) dX10_work_203 ⟨Nat.zero_le _, Nat.zero_le _⟩ (fun H locs hP hS => ?_)
              refine lv_aload_n hx hb dX10_work_206 rfl (lv_at hl 2 rfl) ?_
              refine lv_iload_n hx hb dX10_work_207 rfl (lv_at hl 3 rfl) ?_
              replace h := pt_b2s h; obtain ⟨r33, σ33, e33, h⟩ := h
              refine pt_cVi (As := [.int a1]) (rest := []) S (m_X10_lays l hDa e33) (cwV 1 S.2.2.2.2 gX10_work_X10_lays rfl rfl rfl (by decide +kernel) ⟨Nat.le_of_ble_eq_true rfl, Nat.le_of_ble_eq_true rfl⟩) hK hP hS hZ 0 10 rfl rfl rfl hl.1 rfl (Nat.le_of_ble_eq_true rfl) dX10_work_208 ⟨Nat.zero_le _, Nat.zero_le _⟩ (fun H locs hP hS => ?_)
              refine lv_istore (lv' := [(4, .int r33), (3, .int r2), (2, .int (σ 9 a1.toNatClampNeg)), (0, .ref (ad 0)), (1, .int a1)]) hx hb dX10_work_211 hl (by decide) rfl (fun ls hl => ?_)
              refine lv_iconst (v := 1) hx hb dX10_work_213 (by decide) ?_
              exact pt_iret S hr hlk hP hS (pt_pr h).1 (congrArg (wR ca ad) (pt_pr h).2) dX10_work_214
          · replace h := pt_iN c27 h
            refine lv_aload_n hx hb dX10_work_74 rfl (lv_at hl 2 rfl) ?_
            refine lv_dup hx hb dX10_work_75 rfl ?_
            refine gf_X10_36 S hiX10 hK hP hf151 dX10_work_76 ?_
            refine lv_iconst (v := 1) hx hb dX10_work_79 (by decide) ?_
            refine lv_iadd hx hb dX10_work_80 ?_
            replace h := pt_dos h; obtain ⟨σ34, e34, h⟩ := h
            refine pf_X10_36 S hiX10 hK hP hDa hS hf151 e34 dX10_work_81 (fun H locs hP hS => ?_)
            refine lv_aload_n hx hb dX10_work_84 rfl (lv_at hl 2 rfl) ?_
            refine gf_X10_17 S hiX10 hK hP hf45 dX10_work_85 ?_
            refine lv_iload_n hx hb dX10_work_88 rfl (lv_at hl 3 rfl) ?_
            refine lv_iconst (v := 0) hx hb dX10_work_89 (by decide) ?_
            replace h := pt_dos h; obtain ⟨σ35, e35, h⟩ := h
            refine st_R_8 S hK hP hDa hS g1 e35 dX10_work_90 (fun H locs hP hS => ?_)
            refine lv_aload_n hx hb dX10_work_91 rfl (lv_at hl 2 rfl) ?_
            refine gf_X10_18 S hiX10 hK hP hf48 dX10_work_92 ?_
            refine lv_iload_n hx hb dX10_work_95 rfl (lv_at hl 3 rfl) ?_
            refine lv_iconst (v := -1) hx hb dX10_work_96 (by decide) ?_
            replace h := pt_dos h; obtain ⟨σ36, e36, h⟩ := h
            refine st_R_9 S hK hP hDa hS g1 e36 dX10_work_97 (fun H locs hP hS => ?_)
            refine lv_aload_n hx hb dX10_work_98 rfl (lv_at hl 2 rfl) ?_
            refine gf_X10_25 S hiX10 hK hP hf63 dX10_work_99 ?_
            refine lv_iload_n hx hb dX10_work_102 rfl (lv_at hl 1 rfl) ?_
            refine ld_R_14 S hK hP g5 dX10_work_103 ?_
            refine lv_if_eq (tgt := 125) hx hb dX10_work_104 (by decide) (fun c37 => ?_) (fun c37 => ?_)
            · replace h := pt_ip c37 h
              refine lv_aload_n hx hb dX10_work_125 rfl (lv_at hl 2 rfl) ?_
              refine gf_X10_25 S hiX10 hK hP hf63 dX10_work_126 ?_
              refine lv_iload_n hx hb dX10_work_129 rfl (lv_at hl 1 rfl) ?_
              refine lv_iconst (v := 1) hx hb dX10_work_130 (by decide) ?_
              replace h := pt_dos h; obtain ⟨σ38, e38, h⟩ := h
              refine st_R_14 S hK hP hDa hS g5 e38 dX10_work_131 (fun H locs hP hS => ?_)
              refine lv_aload_n hx hb dX10_work_132 rfl (lv_at hl 2 rfl) ?_
              refine gf_X10_26 S hiX10 hK hP hf66 dX10_work_133 ?_
              refine lv_aload_n hx hb dX10_work_136 rfl (lv_at hl 2 rfl) ?_
              refine gf_X10_27 S hiX10 hK hP hf130 dX10_work_137 ?_
              refine lv_iload_n hx hb dX10_work_140 rfl (lv_at hl 1 rfl) ?_
              replace h := pt_gd h; obtain ⟨g39, h⟩ := h
              replace h := pt_dos h; obtain ⟨σ40, e40, h⟩ := h
              refine st_R_15 S hK hP hDa hS g39 e40 dX10_work_141 (fun H locs hP hS => ?_)
              refine lv_aload_n hx hb dX10_work_142 rfl (lv_at hl 2 rfl) ?_
              refine lv_dup hx hb dX10_work_143 rfl ?_
              refine gf_X10_27 S hiX10 hK hP hf130 dX10_work_144 ?_
              refine lv_iconst (v := 1) hx hb dX10_work_147 (by decide) ?_
              refine lv_iadd hx hb dX10_work_148 ?_
              replace h := pt_dos h; obtain ⟨σ41, e41, h⟩ := h
              refine pf_X10_27 S hiX10 hK hP hDa hS hf130 e41 dX10_work_149 (fun H locs hP hS => ?_)
              refine lv_aload_n hx hb dX10_work_152 rfl (lv_at hl 2 rfl) ?_
              refine lv_iload_n hx hb dX10_work_153 rfl (lv_at hl 0 rfl) ?_
              replace h := pt_b1s h; obtain ⟨σ42, e42, h⟩ := h
              refine pt_cVv (As := [.int r2]) (rest := []) S (m_X10_givesBack l hDa e42) (cwV 1 S.2.2.2.2 gX10_work_X10_givesBack rfl rfl rfl (by decide +kernel) ⟨Nat.le_of_ble_eq_true rfl, Nat.le_of_ble_eq_true rfl⟩) hK hP hS hZ 0 10 rfl rfl rfl hl.1 rfl (Nat.le_of_ble_eq_true rfl) dX10_work_154 ⟨Nat.zero_le _, Nat.zero_le _⟩ (fun H locs hP hS => ?_)
              refine lv_iconst (v := 1) hx hb dX10_work_157 (by decide) ?_
              exact pt_iret S hr hlk hP hS (pt_pr h).1 (congrArg (wR ca ad) (pt_pr h).2) dX10_work_158
            · replace h := pt_iN c37 h
              refine lv_aload_n hx hb dX10_work_107 rfl (lv_at hl 2 rfl) ?_
              refine lv_iload_n hx hb dX10_work_108 rfl (lv_at hl 1 rfl) ?_
              replace h := pt_dos h; obtain ⟨σ43, e43, h⟩ := h
              refine pf_X10_34 S hiX10 hK hP hDa hS hf145 e43 dX10_work_109 (fun H locs hP hS => ?_)
              refine lv_aload_n hx hb dX10_work_112 rfl (lv_at hl 2 rfl) ?_
              refine lv_aload_n hx hb dX10_work_113 rfl (lv_at hl 2 rfl) ?_
              refine gf_X10_6 S hiX10 hK hP hf26 dX10_work_114 ?_
              refine lv_iload_n hx hb dX10_work_117 rfl (lv_at hl 1 rfl) ?_
              refine ld_R_2 S hK hP g5 dX10_work_118 ?_
              replace h := pt_dos h; obtain ⟨σ44, e44, h⟩ := h
              refine pf_X10_35 S hiX10 hK hP hDa hS hf148 e44 dX10_work_119 (fun H locs hP hS => ?_)
              refine lv_goto (tgt := 152) hx hb dX10_work_122 (by decide) ?_
              refine lv_aload_n hx hb dX10_work_152 rfl (lv_at hl 2 rfl) ?_
              refine lv_iload_n hx hb dX10_work_153 rfl (lv_at hl 0 rfl) ?_
              replace h := pt_b1s h; obtain ⟨σ45, e45, h⟩ := h
              refine pt_cVv (As := [.int r2]) (rest := []) S (m_X10_givesBack l hDa e45) (cwV 1 S.2.2.2.2 gX10_work_X10_givesBack rfl rfl rfl (by decide +kernel) ⟨Nat.le_of_ble_eq_true rfl, Nat.le_of_ble_eq_true rfl⟩) hK hP hS hZ 0 10 rfl rfl rfl hl.1 rfl (Nat.le_of_ble_eq_true rfl) dX10_work_154 ⟨Nat.zero_le _, Nat.zero_le _⟩ (fun H locs hP hS => ?_)
              refine lv_iconst (v := 1) hx hb dX10_work_157 (by decide) ?_
              exact pt_iret S hr hlk hP hS (pt_pr h).1 (congrArg (wR ca ad) (pt_pr h).2) dX10_work_158
  · replace h := pt_iN c4 h
    refine lv_aload_n hx hb dX10_work_20 rfl (lv_at hl 2 rfl) ?_
    refine lv_iload_n hx hb dX10_work_21 rfl (lv_at hl 3 rfl) ?_
    replace h := pt_b1s h; obtain ⟨σ52, e52, h⟩ := h
    refine pt_cVv (As := [.int a1]) (rest := []) S (m_X10_ends l hDa e52) (cwV 1 S.2.2.2.2 gX10_work_X10_ends rfl rfl rfl (by decide +kernel) ⟨Nat.le_of_ble_eq_true rfl, Nat.le_of_ble_eq_true rfl⟩) hK hP hS hZ 0 10 rfl rfl rfl hl.1 rfl (Nat.le_of_ble_eq_true rfl) dX10_work_22 ⟨Nat.zero_le _, Nat.zero_le _⟩ (fun H locs hP hS => ?_)
    refine lv_aload_n hx hb dX10_work_25 rfl (lv_at hl 2 rfl) ?_
    refine lv_iload_n hx hb dX10_work_26 rfl (lv_at hl 0 rfl) ?_
    replace h := pt_b1s h; obtain ⟨σ53, e53, h⟩ := h
    refine pt_cVv (As := [.int r2]) (rest := []) S (m_X10_givesBack l hDa e53) (cwV 1 S.2.2.2.2 gX10_work_X10_givesBack rfl rfl rfl (by decide +kernel) ⟨Nat.le_of_ble_eq_true rfl, Nat.le_of_ble_eq_true rfl⟩) hK hP hS hZ 0 10 rfl rfl rfl hl.1 rfl (Nat.le_of_ble_eq_true rfl) dX10_work_27 ⟨Nat.zero_le _, Nat.zero_le _⟩ (fun H locs hP hS => ?_)
    refine lv_iconst (v := 1) hx hb dX10_work_30 (by decide) ?_
    exact pt_iret S hr hlk hP hS (pt_pr h).1 (congrArg (wR ca ad) (pt_pr h).2) dX10_work_31

def f_X10_act (σ : pt_St) (a1 : Int32) : Option (Int32 × pt_St) :=
  pt_do (pt_put σ 0 23 a1) fun σ1 =>
  if pt_in a1 6 then
  if (σ1 8 a1.toNatClampNeg) = (0 : Int32) then
  pt_b2 (f_X10_free σ1 a1) fun r4 σ4 =>
  pt_do (pt_put σ4 0 37 ((σ4 0 37) + r4)) fun σ5 =>
  some (r4, σ5)
  else
  if (σ1 8 a1.toNatClampNeg) = (2 : Int32) then
  pt_b2 (f_X10_work σ1 a1) fun r7 σ7 =>
  pt_do (pt_put σ7 0 37 ((σ7 0 37) + r7)) fun σ8 =>
  some (r7, σ8)
  else
  if (σ1 8 a1.toNatClampNeg) = (4 : Int32) then
  pt_do (pt_put σ1 0 37 ((σ1 0 37) + (0 : Int32))) fun σ11 =>
  some ((0 : Int32), σ11)
  else
  pt_b2 (f_X10_isStopped σ1) fun r12 σ12 =>
  if r12 = (0 : Int32) then
  if (σ12 8 a1.toNatClampNeg) = (3 : Int32) then
  pt_b2 (f_X10_lays σ12 a1) fun r15 σ15 =>
  pt_do (pt_put σ15 0 37 ((σ15 0 37) + r15)) fun σ16 =>
  some (r15, σ16)
  else
  pt_do (pt_put σ12 0 37 ((σ12 0 37) + (0 : Int32))) fun σ17 =>
  some ((0 : Int32), σ17)
  else
  pt_b1 (f_X10_leaves σ12 a1) fun σ18 =>
  pt_b1 (f_X10_ends σ18 a1) fun σ19 =>
  pt_do (pt_put σ19 0 37 ((σ19 0 37) + (1 : Int32))) fun σ20 =>
  some ((1 : Int32), σ20)
  else none
set_option maxHeartbeats 4000000 in
set_option maxRecDepth 100000 in
theorem m_X10_act (l : Launch) {D : va_G} {A : Nat → Prop} {ca : Nat → ClassId} {ad : Nat → Nat} {z : Nat × Nat} (hDa : ∀ σ, va_D A (wR ca ad σ)) {σ σ' : pt_St} {r : Int32} {a1 : Int32} (h : f_X10_act σ a1 = some (r, σ')) : Met l yX10_act wsX10_act { frames := 4, cells := 0, slots := 0, locals := 89 } (va_Pc [.ref (ad 0), .int a1] (pt_Pre D (tysR ca) z A (wR ca ad σ))) (pt_Q (some (.int r)) D (wR ca ad σ') A) 0 0 A := by
  refine Met.ofW (cc := cX10_act) (maxL := 3) (ret := (some .int)) (by decide) rfl ?_
  intro p e s m args below meth c s₁ B hml hv
  obtain ⟨rfl, hP, hK, hZ⟩ := hv
  have S : CallFix p m c cX10_act 3 s ([.ref (ad 0), .int a1] : List Value).toArray wsX10_act RX10 := ⟨B.exec, B.bytes, hml, findClass_of_methodNamed B.named, atoms_spec (ws := wsX10_act) B.pre⟩
  have hx := S.1
  have hb := S.2.1
  have hr := B.returns
  have hlk := B.notSynchronized
  clear B
  have hiX10 : ∀ w ∈ wsX100, w ∈ wsX10_act := fun w h => List.mem_cons_of_mem _ (List.mem_append_right _ h)
  have hf124 : (Cond.fieldLink RX10 124 "PackThreadsModel" "latest" "I").before _ s = true := S.2.2.2.2 _ (List.mem_of_getElem? (i := 1) rfl)
  have hf45 : (Cond.fieldLink RX10 45 "PackThreadsModel" "state" "[I").before _ s = true := S.2.2.2.2 _ (List.mem_of_getElem? (i := 2) rfl)
  have hf154 : (Cond.fieldLink RX10 154 "PackThreadsModel" "turns" "I").before _ s = true := S.2.2.2.2 _ (List.mem_of_getElem? (i := 3) rfl)
  have hS : va_S A s.heap s.heap [] := va_S.rf
  have hl := lv_entry ([.ref (ad 0), .int a1]) (n := 3) (Nat.le_of_ble_eq_true rfl)
  rw [lg_entry_eq]
  generalize (lg_sl ([.ref (ad 0), .int a1]) ++ List.replicate (3 - (lg_sl ([.ref (ad 0), .int a1])).length) Slot.unset).toArray = ls at hl ⊢
  have hl : lv_has ls 3 [(0, .ref (ad 0)), (1, .int a1)] := hl
  unfold f_X10_act at h
  refine lv_aload_n hx hb dX10_act_0 rfl (lv_at hl 0 rfl) ?_
  refine lv_iload_n hx hb dX10_act_1 rfl (lv_at hl 1 rfl) ?_
  replace h := pt_dos h; obtain ⟨σ1, e1, h⟩ := h
  refine pf_X10_23 S hiX10 hK hP hDa hS hf124 e1 dX10_act_2 (fun H locs hP hS => ?_)
  refine lv_iconst (v := 0) hx hb dX10_act_5 (by decide) ?_
  refine lv_istore_n (lv' := [(2, .int (0 : Int32)), (0, .ref (ad 0)), (1, .int a1)]) hx hb dX10_act_6 rfl hl (by decide) rfl (fun ls hl => ?_)
  refine lv_aload_n hx hb dX10_act_7 rfl (lv_at hl 1 rfl) ?_
  refine gf_X10_17 S hiX10 hK hP hf45 dX10_act_8 ?_
  refine lv_iload_n hx hb dX10_act_11 rfl (lv_at hl 2 rfl) ?_
  replace h := pt_gd h; obtain ⟨g2, h⟩ := h
  refine ld_R_8 S hK hP g2 dX10_act_12 ?_
  refine lv_if_ne (tgt := 25) hx hb dX10_act_13 (by decide) (fun c3 => ?_) (fun c3 => ?_)
  · replace h := pt_iN c3 h
    refine lv_aload_n hx hb dX10_act_25 rfl (lv_at hl 1 rfl) ?_
    refine gf_X10_17 S hiX10 hK hP hf45 dX10_act_26 ?_
    refine lv_iload_n hx hb dX10_act_29 rfl (lv_at hl 2 rfl) ?_
    refine ld_R_8 S hK hP g2 dX10_act_30 ?_
    refine lv_iconst (v := 2) hx hb dX10_act_31 (by decide) ?_
    refine lv_icmp_ne (tgt := 44) hx hb dX10_act_32 (by decide) (fun c6 => ?_) (fun c6 => ?_)
    · replace h := pt_iN c6 h
      refine lv_aload_n hx hb dX10_act_44 rfl (lv_at hl 1 rfl) ?_
      refine gf_X10_17 S hiX10 hK hP hf45 dX10_act_45 ?_
      refine lv_iload_n hx hb dX10_act_48 rfl (lv_at hl 2 rfl) ?_
      refine ld_R_8 S hK hP g2 dX10_act_49 ?_
      refine lv_iconst (v := 4) hx hb dX10_act_50 (by decide) ?_
      refine lv_icmp_eq (tgt := 76) hx hb dX10_act_51 (by decide) (fun c9 => ?_) (fun c9 => ?_)
      · replace h := pt_ip c9 h
        refine lv_aload_n hx hb dX10_act_76 rfl (lv_at hl 1 rfl) ?_
        refine gf_X10_17 S hiX10 hK hP hf45 dX10_act_77 ?_
        refine lv_iload_n hx hb dX10_act_80 rfl (lv_at hl 2 rfl) ?_
        refine ld_R_8 S hK hP g2 dX10_act_81 ?_
        refine lv_iconst (v := 3) hx hb dX10_act_82 (by decide) ?_
        refine lv_icmp_ne (tgt := 92) hx hb dX10_act_83 (by decide) (fun c10 => ?_) (fun c10 => ?_)
        · refine lv_aload_n hx hb dX10_act_92 rfl (lv_at hl 1 rfl) ?_
          refine lv_dup hx hb dX10_act_93 rfl ?_
          refine gf_X10_37 S hiX10 hK hP hf154 dX10_act_94 ?_
          refine lv_iload_n hx hb dX10_act_97 rfl (lv_at hl 0 rfl) ?_
          refine lv_iadd hx hb dX10_act_98 ?_
          replace h := pt_dos h; obtain ⟨σ11, e11, h⟩ := h
          refine pf_X10_37 S hiX10 hK hP hDa hS hf154 e11 dX10_act_99 (fun H locs hP hS => ?_)
          refine lv_iload_n hx hb dX10_act_102 rfl (lv_at hl 0 rfl) ?_
          exact pt_iret S hr hlk hP hS (pt_pr h).1 (congrArg (wR ca ad) (pt_pr h).2) dX10_act_103
        · exact absurd c10 (fun q => absurd (c9.symm.trans q) (by decide))
      · replace h := pt_iN c9 h
        refine lv_aload_n hx hb dX10_act_54 rfl (lv_at hl 1 rfl) ?_
        replace h := pt_b2s h; obtain ⟨r12, σ12, e12, h⟩ := h
        refine pt_cVi (As := []) (rest := []) S (m_X10_isStopped l hDa e12) (cwV 0 S.2.2.2.2 gX10_act_X10_isStopped rfl rfl rfl (by decide +kernel) ⟨Nat.le_of_ble_eq_true rfl, Nat.le_of_ble_eq_true rfl⟩) hK hP hS hZ 0 10 rfl rfl rfl hl.1 rfl (Nat.le_of_ble_eq_true rfl) dX10_act_55 ⟨Nat.zero_le _, Nat.zero_le _⟩ (fun H locs hP hS => ?_)
        refine lv_if_eq (tgt := 76) hx hb dX10_act_58 (by decide) (fun c13 => ?_) (fun c13 => ?_)
        · replace h := pt_ip c13 h
          refine lv_aload_n hx hb dX10_act_76 rfl (lv_at hl 1 rfl) ?_
          refine gf_X10_17 S hiX10 hK hP hf45 dX10_act_77 ?_
          refine lv_iload_n hx hb dX10_act_80 rfl (lv_at hl 2 rfl) ?_
          refine ld_R_8 S hK hP g2 dX10_act_81 ?_
          refine lv_iconst (v := 3) hx hb dX10_act_82 (by decide) ?_
          refine lv_icmp_ne (tgt := 92) hx hb dX10_act_83 (by decide) (fun c14 => ?_) (fun c14 => ?_)
          · replace h := pt_iN c14 h
            refine lv_aload_n hx hb dX10_act_92 rfl (lv_at hl 1 rfl) ?_
            refine lv_dup hx hb dX10_act_93 rfl ?_
            refine gf_X10_37 S hiX10 hK hP hf154 dX10_act_94 ?_
            refine lv_iload_n hx hb dX10_act_97 rfl (lv_at hl 0 rfl) ?_
            refine lv_iadd hx hb dX10_act_98 ?_
            replace h := pt_dos h; obtain ⟨σ17, e17, h⟩ := h
            refine pf_X10_37 S hiX10 hK hP hDa hS hf154 e17 dX10_act_99 (fun H locs hP hS => ?_)
            refine lv_iload_n hx hb dX10_act_102 rfl (lv_at hl 0 rfl) ?_
            exact pt_iret S hr hlk hP hS (pt_pr h).1 (congrArg (wR ca ad) (pt_pr h).2) dX10_act_103
          · replace h := pt_ip c14 h
            refine lv_aload_n hx hb dX10_act_86 rfl (lv_at hl 1 rfl) ?_
            refine lv_iload_n hx hb dX10_act_87 rfl (lv_at hl 2 rfl) ?_
            replace h := pt_b2s h; obtain ⟨r15, σ15, e15, h⟩ := h
            refine pt_cVi (As := [.int a1]) (rest := []) S (m_X10_lays l hDa e15) (cwV 1 S.2.2.2.2 gX10_act_X10_lays rfl rfl rfl (by decide +kernel) ⟨Nat.le_of_ble_eq_true rfl, Nat.le_of_ble_eq_true rfl⟩) hK hP hS hZ 0 10 rfl rfl rfl hl.1 rfl (Nat.le_of_ble_eq_true rfl) dX10_act_88 ⟨Nat.zero_le _, Nat.zero_le _⟩ (fun H locs hP hS => ?_)
            refine lv_istore_n (lv' := [(2, .int r15), (0, .ref (ad 0)), (1, .int a1)]) hx hb dX10_act_91 rfl hl (by decide) rfl (fun ls hl => ?_)
            refine lv_aload_n hx hb dX10_act_92 rfl (lv_at hl 1 rfl) ?_
            refine lv_dup hx hb dX10_act_93 rfl ?_
            refine gf_X10_37 S hiX10 hK hP hf154 dX10_act_94 ?_
            refine lv_iload_n hx hb dX10_act_97 rfl (lv_at hl 0 rfl) ?_
            refine lv_iadd hx hb dX10_act_98 ?_
            replace h := pt_dos h; obtain ⟨σ16, e16, h⟩ := h
            refine pf_X10_37 S hiX10 hK hP hDa hS hf154 e16 dX10_act_99 (fun H locs hP hS => ?_)
            refine lv_iload_n hx hb dX10_act_102 rfl (lv_at hl 0 rfl) ?_
            exact pt_iret S hr hlk hP hS (pt_pr h).1 (congrArg (wR ca ad) (pt_pr h).2) dX10_act_103
        · replace h := pt_iN c13 h
          refine lv_aload_n hx hb dX10_act_61 rfl (lv_at hl 1 rfl) ?_
          refine lv_iload_n hx hb dX10_act_62 rfl (lv_at hl 2 rfl) ?_
          replace h := pt_b1s h; obtain ⟨σ18, e18, h⟩ := h
          refine pt_cVv (As := [.int a1]) (rest := []) S (m_X10_leaves l hDa e18) (cwV 1 S.2.2.2.2 gX10_act_X10_leaves rfl rfl rfl (by decide +kernel) ⟨Nat.le_of_ble_eq_true rfl, Nat.le_of_ble_eq_true rfl⟩) hK hP hS hZ 0 10 rfl rfl rfl hl.1 rfl (Nat.le_of_ble_eq_true rfl) dX10_act_63 ⟨Nat.zero_le _, Nat.zero_le _⟩ (fun H locs hP hS => ?_)
          refine lv_aload_n hx hb dX10_act_66 rfl (lv_at hl 1 rfl) ?_
          refine lv_iload_n hx hb dX10_act_67 rfl (lv_at hl 2 rfl) ?_
          replace h := pt_b1s h; obtain ⟨σ19, e19, h⟩ := h
          refine pt_cVv (As := [.int a1]) (rest := []) S (m_X10_ends l hDa e19) (cwV 1 S.2.2.2.2 gX10_act_X10_ends rfl rfl rfl (by decide +kernel) ⟨Nat.le_of_ble_eq_true rfl, Nat.le_of_ble_eq_true rfl⟩) hK hP hS hZ 0 10 rfl rfl rfl hl.1 rfl (Nat.le_of_ble_eq_true rfl) dX10_act_68 ⟨Nat.zero_le _, Nat.zero_le _⟩ (fun H locs hP hS => ?_)
          refine lv_iconst (v := 1) hx hb dX10_act_71 (by decide) ?_
          refine lv_istore_n (lv' := [(2, .int (1 : Int32)), (0, .ref (ad 0)), (1, .int a1)]) hx hb dX10_act_72 rfl hl (by decide) rfl (fun ls hl => ?_)
          refine lv_goto (tgt := 92) hx hb dX10_act_73 (by decide) ?_
          refine lv_aload_n hx hb dX10_act_92 rfl (lv_at hl 1 rfl) ?_
          refine lv_dup hx hb dX10_act_93 rfl ?_
          refine gf_X10_37 S hiX10 hK hP hf154 dX10_act_94 ?_
          refine lv_iload_n hx hb dX10_act_97 rfl (lv_at hl 0 rfl) ?_
          refine lv_iadd hx hb dX10_act_98 ?_
          replace h := pt_dos h; obtain ⟨σ20, e20, h⟩ := h
          refine pf_X10_37 S hiX10 hK hP hDa hS hf154 e20 dX10_act_99 (fun H locs hP hS => ?_)
          refine lv_iload_n hx hb dX10_act_102 rfl (lv_at hl 0 rfl) ?_
          exact pt_iret S hr hlk hP hS (pt_pr h).1 (congrArg (wR ca ad) (pt_pr h).2) dX10_act_103
    · replace h := pt_ip c6 h
      refine lv_aload_n hx hb dX10_act_35 rfl (lv_at hl 1 rfl) ?_
      refine lv_iload_n hx hb dX10_act_36 rfl (lv_at hl 2 rfl) ?_
      replace h := pt_b2s h; obtain ⟨r7, σ7, e7, h⟩ := h
      refine pt_cVi (As := [.int a1]) (rest := []) S (m_X10_work l hDa e7) (cwV 1 S.2.2.2.2 gX10_act_X10_work rfl rfl rfl (by decide +kernel) ⟨Nat.le_of_ble_eq_true rfl, Nat.le_of_ble_eq_true rfl⟩) hK hP hS hZ 0 10 rfl rfl rfl hl.1 rfl (Nat.le_of_ble_eq_true rfl) dX10_act_37 ⟨Nat.zero_le _, Nat.zero_le _⟩ (fun H locs hP hS => ?_)
      refine lv_istore_n (lv' := [(2, .int r7), (0, .ref (ad 0)), (1, .int a1)]) hx hb dX10_act_40 rfl hl (by decide) rfl (fun ls hl => ?_)
      refine lv_goto (tgt := 92) hx hb dX10_act_41 (by decide) ?_
      refine lv_aload_n hx hb dX10_act_92 rfl (lv_at hl 1 rfl) ?_
      refine lv_dup hx hb dX10_act_93 rfl ?_
      refine gf_X10_37 S hiX10 hK hP hf154 dX10_act_94 ?_
      refine lv_iload_n hx hb dX10_act_97 rfl (lv_at hl 0 rfl) ?_
      refine lv_iadd hx hb dX10_act_98 ?_
      replace h := pt_dos h; obtain ⟨σ8, e8, h⟩ := h
      refine pf_X10_37 S hiX10 hK hP hDa hS hf154 e8 dX10_act_99 (fun H locs hP hS => ?_)
      refine lv_iload_n hx hb dX10_act_102 rfl (lv_at hl 0 rfl) ?_
      exact pt_iret S hr hlk hP hS (pt_pr h).1 (congrArg (wR ca ad) (pt_pr h).2) dX10_act_103
  · replace h := pt_ip c3 h
    refine lv_aload_n hx hb dX10_act_16 rfl (lv_at hl 1 rfl) ?_
    refine lv_iload_n hx hb dX10_act_17 rfl (lv_at hl 2 rfl) ?_
    replace h := pt_b2s h; obtain ⟨r4, σ4, e4, h⟩ := h
    refine pt_cVi (As := [.int a1]) (rest := []) S (m_X10_free l hDa e4) (cwV 1 S.2.2.2.2 gX10_act_X10_free rfl rfl rfl (by decide +kernel) ⟨Nat.le_of_ble_eq_true rfl, Nat.le_of_ble_eq_true rfl⟩) hK hP hS hZ 0 10 rfl rfl rfl hl.1 rfl (Nat.le_of_ble_eq_true rfl) dX10_act_18 ⟨Nat.zero_le _, Nat.zero_le _⟩ (fun H locs hP hS => ?_)
    refine lv_istore_n (lv' := [(2, .int r4), (0, .ref (ad 0)), (1, .int a1)]) hx hb dX10_act_21 rfl hl (by decide) rfl (fun ls hl => ?_)
    refine lv_goto (tgt := 92) hx hb dX10_act_22 (by decide) ?_
    refine lv_aload_n hx hb dX10_act_92 rfl (lv_at hl 1 rfl) ?_
    refine lv_dup hx hb dX10_act_93 rfl ?_
    refine gf_X10_37 S hiX10 hK hP hf154 dX10_act_94 ?_
    refine lv_iload_n hx hb dX10_act_97 rfl (lv_at hl 0 rfl) ?_
    refine lv_iadd hx hb dX10_act_98 ?_
    replace h := pt_dos h; obtain ⟨σ5, e5, h⟩ := h
    refine pf_X10_37 S hiX10 hK hP hDa hS hf154 e5 dX10_act_99 (fun H locs hP hS => ?_)
    refine lv_iload_n hx hb dX10_act_102 rfl (lv_at hl 0 rfl) ?_
    exact pt_iret S hr hlk hP hS (pt_pr h).1 (congrArg (wR ca ad) (pt_pr h).2) dX10_act_103

def f_X10_isThread (σ : pt_St) (a1 : Int32) : Option (Int32 × pt_St) :=
  if (σ 0 14) = (0 : Int32) then
  pt_b2 (f_X10_in σ a1 (0 : Int32) (5 : Int32)) fun r2 σ2 =>
  if r2 = 0 ∨ r2 = 1 then some (r2, σ2) else none
  else
  pt_b2 (f_X10_in σ a1 (0 : Int32) ((σ 0 15) - (1 : Int32))) fun r4 σ4 =>
  if r4 = 0 ∨ r4 = 1 then some (r4, σ4) else none
set_option maxHeartbeats 4000000 in
set_option maxRecDepth 100000 in
theorem m_X10_isThread (l : Launch) {D : va_G} {A : Nat → Prop} {ca : Nat → ClassId} {ad : Nat → Nat} {z : Nat × Nat} (hDa : ∀ σ, va_D A (wR ca ad σ)) {σ σ' : pt_St} {r : Int32} {a1 : Int32} (h : f_X10_isThread σ a1 = some (r, σ')) : Met l yX10_isThread wsX10_isThread { frames := 1, cells := 0, slots := 0, locals := 22 } (va_Pc [.ref (ad 0), .int a1] (pt_Pre D (tysR ca) z A (wR ca ad σ))) (pt_Q (some (.int r)) D (wR ca ad σ') A) 0 0 A := by
  refine Met.ofW (cc := cX10_isThread) (maxL := 2) (ret := (some .boolean)) (by decide) rfl ?_
  intro p e s m args below meth c s₁ B hml hv
  obtain ⟨rfl, hP, hK, hZ⟩ := hv
  have S : CallFix p m c cX10_isThread 2 s ([.ref (ad 0), .int a1] : List Value).toArray wsX10_isThread RX10 := ⟨B.exec, B.bytes, hml, findClass_of_methodNamed B.named, atoms_spec (ws := wsX10_isThread) B.pre⟩
  have hx := S.1
  have hb := S.2.1
  have hr := B.returns
  have hlk := B.notSynchronized
  clear B
  have hiX10 : ∀ w ∈ wsX100, w ∈ wsX10_isThread := fun w h => List.mem_cons_of_mem _ (List.mem_append_right _ h)
  have hf82 : (Cond.fieldLink RX10 82 "PackThreadsModel" "isBegun" "Z").before _ s = true := S.2.2.2.2 _ (List.mem_of_getElem? (i := 1) rfl)
  have hf118 : (Cond.fieldLink RX10 118 "PackThreadsModel" "threads" "I").before _ s = true := S.2.2.2.2 _ (List.mem_of_getElem? (i := 2) rfl)
  have hS : va_S A s.heap s.heap [] := va_S.rf
  have hl := lv_entry ([.ref (ad 0), .int a1]) (n := 2) (Nat.le_of_ble_eq_true rfl)
  rw [lg_entry_eq]
  generalize (lg_sl ([.ref (ad 0), .int a1]) ++ List.replicate (2 - (lg_sl ([.ref (ad 0), .int a1])).length) Slot.unset).toArray = ls at hl ⊢
  have hl : lv_has ls 2 [(0, .ref (ad 0)), (1, .int a1)] := hl
  unfold f_X10_isThread at h
  refine lv_iload_n hx hb dX10_isThread_0 rfl (lv_at hl 1 rfl) ?_
  refine lv_iconst (v := 0) hx hb dX10_isThread_1 (by decide) ?_
  refine lv_aload_n hx hb dX10_isThread_2 rfl (lv_at hl 0 rfl) ?_
  refine gf_X10_14 S hiX10 hK hP hf82 dX10_isThread_3 ?_
  refine lv_if_eq (tgt := 18) hx hb dX10_isThread_6 (by decide) (fun c1 => ?_) (fun c1 => ?_)
  · replace h := pt_ip c1 h
    refine lv_iconst (v := 5) hx hb dX10_isThread_18 (by decide) ?_
    replace h := pt_b2s h; obtain ⟨r2, σ2, e2, h⟩ := h
    refine pt_cSi (As := [.int a1, .int (0 : Int32), .int (5 : Int32)]) (rest := []) S (m_X10_in l hDa e2) (cwS 3 S.2.2.2.2 gX10_isThread_X10_in rfl rfl rfl (by decide +kernel) ⟨Nat.le_of_ble_eq_true rfl, Nat.le_of_ble_eq_true rfl⟩) hK hP hS hZ rfl hl.1 rfl (Nat.le_of_ble_eq_true rfl) dX10_isThread_19 ⟨Nat.zero_le _, Nat.zero_le _⟩ (fun H locs hP hS => ?_)
    replace h := pt_gd h; obtain ⟨g3, h⟩ := h
    exact pt_zret S hr hlk hP hS g3 (pt_pr h).1 (congrArg (wR ca ad) (pt_pr h).2) dX10_isThread_22
  · replace h := pt_iN c1 h
    refine lv_aload_n hx hb dX10_isThread_9 rfl (lv_at hl 0 rfl) ?_
    refine gf_X10_15 S hiX10 hK hP hf118 dX10_isThread_10 ?_
    refine lv_iconst (v := 1) hx hb dX10_isThread_13 (by decide) ?_
    refine lv_isub hx hb dX10_isThread_14 ?_
    refine lv_goto (tgt := 19) hx hb dX10_isThread_15 (by decide) ?_
    replace h := pt_b2s h; obtain ⟨r4, σ4, e4, h⟩ := h
    refine pt_cSi (As := [.int a1, .int (0 : Int32), .int ((σ 0 15) - (1 : Int32))]) (rest := []) S (m_X10_in l hDa e4) (cwS 3 S.2.2.2.2 gX10_isThread_X10_in rfl rfl rfl (by decide +kernel) ⟨Nat.le_of_ble_eq_true rfl, Nat.le_of_ble_eq_true rfl⟩) hK hP hS hZ rfl hl.1 rfl (Nat.le_of_ble_eq_true rfl) dX10_isThread_19 ⟨Nat.zero_le _, Nat.zero_le _⟩ (fun H locs hP hS => ?_)
    replace h := pt_gd h; obtain ⟨g5, h⟩ := h
    exact pt_zret S hr hlk hP hS g5 (pt_pr h).1 (congrArg (wR ca ad) (pt_pr h).2) dX10_isThread_22

def f_X10_turn (σ : pt_St) (a1 : Int32) : Option (Int32 × pt_St) :=
  pt_b2 (f_X10_isThread σ a1) fun r1 σ1 =>
  if r1 = (0 : Int32) then
  some ((-2 : Int32), σ1)
  else
  if (σ1 0 14) = (0 : Int32) then
  some ((-3 : Int32), σ1)
  else
  pt_b2 (f_X10_act σ1 a1) fun r4 σ4 =>
  some (r4, σ4)
set_option maxHeartbeats 4000000 in
set_option maxRecDepth 100000 in
theorem m_X10_turn (l : Launch) {D : va_G} {A : Nat → Prop} {ca : Nat → ClassId} {ad : Nat → Nat} {z : Nat × Nat} (hDa : ∀ σ, va_D A (wR ca ad σ)) {σ σ' : pt_St} {r : Int32} {a1 : Int32} (h : f_X10_turn σ a1 = some (r, σ')) : Met l yX10_turn wsX10_turn { frames := 5, cells := 0, slots := 0, locals := 111 } (va_Pc [.ref (ad 0), .int a1] (pt_Pre D (tysR ca) z A (wR ca ad σ))) (pt_Q (some (.int r)) D (wR ca ad σ') A) 0 0 A := by
  refine Met.ofW (cc := cX10_turn) (maxL := 2) (ret := (some .int)) (by decide) rfl ?_
  intro p e s m args below meth c s₁ B hml hv
  obtain ⟨rfl, hP, hK, hZ⟩ := hv
  have S : CallFix p m c cX10_turn 2 s ([.ref (ad 0), .int a1] : List Value).toArray wsX10_turn RX10 := ⟨B.exec, B.bytes, hml, findClass_of_methodNamed B.named, atoms_spec (ws := wsX10_turn) B.pre⟩
  have hx := S.1
  have hb := S.2.1
  have hr := B.returns
  have hlk := B.notSynchronized
  clear B
  have hiX10 : ∀ w ∈ wsX100, w ∈ wsX10_turn := fun w h => List.mem_cons_of_mem _ (List.mem_append_right _ h)
  have hf82 : (Cond.fieldLink RX10 82 "PackThreadsModel" "isBegun" "Z").before _ s = true := S.2.2.2.2 _ (List.mem_of_getElem? (i := 1) rfl)
  have hS : va_S A s.heap s.heap [] := va_S.rf
  have hl := lv_entry ([.ref (ad 0), .int a1]) (n := 2) (Nat.le_of_ble_eq_true rfl)
  rw [lg_entry_eq]
  generalize (lg_sl ([.ref (ad 0), .int a1]) ++ List.replicate (2 - (lg_sl ([.ref (ad 0), .int a1])).length) Slot.unset).toArray = ls at hl ⊢
  have hl : lv_has ls 2 [(0, .ref (ad 0)), (1, .int a1)] := hl
  unfold f_X10_turn at h
  refine lv_aload_n hx hb dX10_turn_0 rfl (lv_at hl 0 rfl) ?_
  refine lv_iload_n hx hb dX10_turn_1 rfl (lv_at hl 1 rfl) ?_
  replace h := pt_b2s h; obtain ⟨r1, σ1, e1, h⟩ := h
  refine pt_cVi (As := [.int a1]) (rest := []) S (m_X10_isThread l hDa e1) (cwV 1 S.2.2.2.2 gX10_turn_X10_isThread rfl rfl rfl (by decide +kernel) ⟨Nat.le_of_ble_eq_true rfl, Nat.le_of_ble_eq_true rfl⟩) hK hP hS hZ 0 10 rfl rfl rfl hl.1 rfl (Nat.le_of_ble_eq_true rfl) dX10_turn_2 ⟨Nat.zero_le _, Nat.zero_le _⟩ (fun H locs hP hS => ?_)
  refine lv_if_ne (tgt := 13) hx hb dX10_turn_5 (by decide) (fun c2 => ?_) (fun c2 => ?_)
  · replace h := pt_iN c2 h
    refine lv_aload_n hx hb dX10_turn_13 rfl (lv_at hl 0 rfl) ?_
    refine gf_X10_14 S hiX10 hK hP hf82 dX10_turn_14 ?_
    refine lv_if_ne (tgt := 25) hx hb dX10_turn_17 (by decide) (fun c3 => ?_) (fun c3 => ?_)
    · replace h := pt_iN c3 h
      refine lv_aload_n hx hb dX10_turn_25 rfl (lv_at hl 0 rfl) ?_
      refine lv_iload_n hx hb dX10_turn_26 rfl (lv_at hl 1 rfl) ?_
      replace h := pt_b2s h; obtain ⟨r4, σ4, e4, h⟩ := h
      refine pt_cVi (As := [.int a1]) (rest := []) S (m_X10_act l hDa e4) (cwV 1 S.2.2.2.2 gX10_turn_X10_act rfl rfl rfl (by decide +kernel) ⟨Nat.le_of_ble_eq_true rfl, Nat.le_of_ble_eq_true rfl⟩) hK hP hS hZ 0 10 rfl rfl rfl hl.1 rfl (Nat.le_of_ble_eq_true rfl) dX10_turn_27 ⟨Nat.zero_le _, Nat.zero_le _⟩ (fun H locs hP hS => ?_)
      exact pt_iret S hr hlk hP hS (pt_pr h).1 (congrArg (wR ca ad) (pt_pr h).2) dX10_turn_30
    · replace h := pt_ip c3 h
      refine lv_bipush (v := -3) hx hb dX10_turn_20 (by decide) ?_
      refine lv_goto (tgt := 30) hx hb dX10_turn_22 (by decide) ?_
      exact pt_iret S hr hlk hP hS (pt_pr h).1 (congrArg (wR ca ad) (pt_pr h).2) dX10_turn_30
  · replace h := pt_ip c2 h
    refine lv_bipush (v := -2) hx hb dX10_turn_8 (by decide) ?_
    refine lv_goto (tgt := 30) hx hb dX10_turn_10 (by decide) ?_
    exact pt_iret S hr hlk hP hS (pt_pr h).1 (congrArg (wR ca ad) (pt_pr h).2) dX10_turn_30

def lp_X10_isOver_4 (k : pt_St → Int32 → Int32 → Option (Int32 × pt_St)) : Nat → pt_St → Int32 → Int32 → Option (Int32 × pt_St)
  | 0, _, _, _ => none
  | n + 1, σ, x1, x2 =>
    if (σ 0 15) ≤ x2 then
    k σ x1 x2
    else
    if x1 = (0 : Int32) then
    lp_X10_isOver_4 k n σ (0 : Int32) (x2 + (1 : Int32))
    else
    if pt_in x2 6 then
    if (σ 8 x2.toNatClampNeg) = (4 : Int32) then
    lp_X10_isOver_4 k n σ (1 : Int32) (x2 + (1 : Int32))
    else
    lp_X10_isOver_4 k n σ (0 : Int32) (x2 + (1 : Int32))
    else none
def kx_X10_isOver_4 (σ : pt_St) (x1 : Int32) (x2 : Int32) : Option (Int32 × pt_St) :=
  if x1 = 0 ∨ x1 = 1 then some (x1, σ) else none
def f_X10_isOver (σ : pt_St) : Option (Int32 × pt_St) :=
  lp_X10_isOver_4 (kx_X10_isOver_4) pt_F σ (1 : Int32) (0 : Int32)
set_option maxHeartbeats 4000000 in
set_option maxRecDepth 100000 in
theorem m_X10_isOver (l : Launch) {D : va_G} {A : Nat → Prop} {ca : Nat → ClassId} {ad : Nat → Nat} {z : Nat × Nat} (hDa : ∀ σ, va_D A (wR ca ad σ)) {σ σ' : pt_St} {r : Int32} (h : f_X10_isOver σ = some (r, σ')) : Met l yX10_isOver wsX10_isOver { frames := 0, cells := 0, slots := 0, locals := 0 } (va_Pc [.ref (ad 0)] (pt_Pre D (tysR ca) z A (wR ca ad σ))) (pt_Q (some (.int r)) D (wR ca ad σ') A) 0 0 A := by
  refine Met.ofW (cc := cX10_isOver) (maxL := 3) (ret := (some .boolean)) (by decide) rfl ?_
  intro p e s m args below meth c s₁ B hml hv
  obtain ⟨rfl, hP, hK, hZ⟩ := hv
  have S : CallFix p m c cX10_isOver 3 s ([.ref (ad 0)] : List Value).toArray wsX10_isOver RX10 := ⟨B.exec, B.bytes, hml, findClass_of_methodNamed B.named, atoms_spec (ws := wsX10_isOver) B.pre⟩
  have hx := S.1
  have hb := S.2.1
  have hr := B.returns
  have hlk := B.notSynchronized
  clear B
  have hiX10 : ∀ w ∈ wsX100, w ∈ wsX10_isOver := fun w h => List.mem_cons_of_mem _ (List.mem_append_right _ h)
  have hf118 : (Cond.fieldLink RX10 118 "PackThreadsModel" "threads" "I").before _ s = true := S.2.2.2.2 _ (List.mem_of_getElem? (i := 1) rfl)
  have hf45 : (Cond.fieldLink RX10 45 "PackThreadsModel" "state" "[I").before _ s = true := S.2.2.2.2 _ (List.mem_of_getElem? (i := 2) rfl)
  have hS : va_S A s.heap s.heap [] := va_S.rf
  have hl := lv_entry ([.ref (ad 0)]) (n := 3) (Nat.le_of_ble_eq_true rfl)
  rw [lg_entry_eq]
  generalize (lg_sl ([.ref (ad 0)]) ++ List.replicate (3 - (lg_sl ([.ref (ad 0)])).length) Slot.unset).toArray = ls at hl ⊢
  have hl : lv_has ls 3 [(0, .ref (ad 0))] := hl
  unfold f_X10_isOver at h
  refine lv_iconst (v := 1) hx hb dX10_isOver_0 (by decide) ?_
  refine lv_istore_n (lv' := [(1, .int (1 : Int32)), (0, .ref (ad 0))]) hx hb dX10_isOver_1 rfl hl (by decide) rfl (fun ls hl => ?_)
  refine lv_iconst (v := 0) hx hb dX10_isOver_2 (by decide) ?_
  refine lv_istore_n (lv' := [(2, .int (0 : Int32)), (1, .int (1 : Int32)), (0, .ref (ad 0))]) hx hb dX10_isOver_3 rfl hl (by decide) rfl (fun ls hl => ?_)
  have X4 : ∀ (σ : pt_St) (x1 : Int32) (x2 : Int32), kx_X10_isOver_4 σ x1 x2 = some (r, σ') → ∀ (H : Heap) (locs : List Loc) (ls : Array Slot), va_P D vwCl (wR ca ad σ) H → va_S A s.heap H locs → lv_has ls 3 [(0, .ref (ad 0)), (1, .int x1), (2, .int x2)] → W p l e (headSpec wsX10_isOver { frames := 0, cells := 0, slots := 0, locals := 0 }).room s m ([.ref (ad 0)] : List Value).toArray below meth c H locs 0 0 (MQ below (pt_Q (some (.int r)) D (wR ca ad σ') A) ([.ref (ad 0)] : List Value).toArray s 0 0 A) (F0 m 38 ls []) := by
    intro σ x1 x2 h H locs ls hP hS hl
    unfold kx_X10_isOver_4 at h
    refine lv_iload_n hx hb dX10_isOver_38 rfl (lv_at hl 1 rfl) ?_
    replace h := pt_gd h; obtain ⟨g5501, h⟩ := h
    exact pt_zret S hr hlk hP hS g5501 (pt_pr h).1 (congrArg (wR ca ad) (pt_pr h).2) dX10_isOver_39
  have L4 : ∀ (n : Nat) (σ : pt_St) (x1 : Int32) (x2 : Int32),  lp_X10_isOver_4 (kx_X10_isOver_4) n σ x1 x2 = some (r, σ') → ∀ (H : Heap) (locs : List Loc) (ls : Array Slot), va_P D vwCl (wR ca ad σ) H → va_S A s.heap H locs → lv_has ls 3 [(0, .ref (ad 0)), (1, .int x1), (2, .int x2)] → W p l e (headSpec wsX10_isOver { frames := 0, cells := 0, slots := 0, locals := 0 }).room s m ([.ref (ad 0)] : List Value).toArray below meth c H locs 0 0 (MQ below (pt_Q (some (.int r)) D (wR ca ad σ') A) ([.ref (ad 0)] : List Value).toArray s 0 0 A) (F0 m 4 ls []) := by
    intro n
    induction n with
    | zero => intro σ x1 x2 h; cases h
    | succ n ih0 =>
      intro σ x1 x2 h H locs ls hP hS hl
      rw [lp_X10_isOver_4] at h
      refine lv_iload_n hx hb dX10_isOver_4 rfl (lv_at hl 2 rfl) ?_
      refine lv_aload_n hx hb dX10_isOver_5 rfl (lv_at hl 0 rfl) ?_
      refine gf_X10_15 S hiX10 hK hP hf118 dX10_isOver_6 ?_
      refine lv_icmp_ge (tgt := 38) hx hb dX10_isOver_9 (by decide) (fun c5001 => ?_) (fun c5001 => ?_)
      · replace h := pt_ip c5001 h
        exact X4 _ _ _ h _ _ _ hP hS (lv_sub hl [0, 1, 2] rfl)
      · replace h := pt_iN c5001 h
        refine lv_iload_n hx hb dX10_isOver_12 rfl (lv_at hl 1 rfl) ?_
        refine lv_if_eq (tgt := 30) hx hb dX10_isOver_13 (by decide) (fun c5002 => ?_) (fun c5002 => ?_)
        · replace h := pt_ip c5002 h
          refine lv_iconst (v := 0) hx hb dX10_isOver_30 (by decide) ?_
          refine lv_istore_n (lv' := [(1, .int (0 : Int32)), (0, .ref (ad 0)), (2, .int x2)]) hx hb dX10_isOver_31 rfl hl (by decide) rfl (fun ls hl => ?_)
          refine lv_iinc (v := x2 + (1 : Int32)) (lv' := [(2, .int (x2 + (1 : Int32))), (1, .int (0 : Int32)), (0, .ref (ad 0))]) hx hb dX10_isOver_32 hl (k := 2) rfl rfl (by decide) rfl (fun ls hl => ?_)
          refine lv_goto (tgt := 4) hx hb dX10_isOver_35 (by decide) ?_
          exact ih0 _ _ _ h _ _ _ hP hS (lv_sub hl [2, 1, 0] rfl)
        · replace h := pt_iN c5002 h
          refine lv_aload_n hx hb dX10_isOver_16 rfl (lv_at hl 0 rfl) ?_
          refine gf_X10_17 S hiX10 hK hP hf45 dX10_isOver_17 ?_
          refine lv_iload_n hx hb dX10_isOver_20 rfl (lv_at hl 2 rfl) ?_
          replace h := pt_gd h; obtain ⟨g5003, h⟩ := h
          refine ld_R_8 S hK hP g5003 dX10_isOver_21 ?_
          refine lv_iconst (v := 4) hx hb dX10_isOver_22 (by decide) ?_
          refine lv_icmp_ne (tgt := 30) hx hb dX10_isOver_23 (by decide) (fun c5004 => ?_) (fun c5004 => ?_)
          · replace h := pt_iN c5004 h
            refine lv_iconst (v := 0) hx hb dX10_isOver_30 (by decide) ?_
            refine lv_istore_n (lv' := [(1, .int (0 : Int32)), (0, .ref (ad 0)), (2, .int x2)]) hx hb dX10_isOver_31 rfl hl (by decide) rfl (fun ls hl => ?_)
            refine lv_iinc (v := x2 + (1 : Int32)) (lv' := [(2, .int (x2 + (1 : Int32))), (1, .int (0 : Int32)), (0, .ref (ad 0))]) hx hb dX10_isOver_32 hl (k := 2) rfl rfl (by decide) rfl (fun ls hl => ?_)
            refine lv_goto (tgt := 4) hx hb dX10_isOver_35 (by decide) ?_
            exact ih0 _ _ _ h _ _ _ hP hS (lv_sub hl [2, 1, 0] rfl)
          · replace h := pt_ip c5004 h
            refine lv_iconst (v := 1) hx hb dX10_isOver_26 (by decide) ?_
            refine lv_goto (tgt := 31) hx hb dX10_isOver_27 (by decide) ?_
            refine lv_istore_n (lv' := [(1, .int (1 : Int32)), (0, .ref (ad 0)), (2, .int x2)]) hx hb dX10_isOver_31 rfl hl (by decide) rfl (fun ls hl => ?_)
            refine lv_iinc (v := x2 + (1 : Int32)) (lv' := [(2, .int (x2 + (1 : Int32))), (1, .int (1 : Int32)), (0, .ref (ad 0))]) hx hb dX10_isOver_32 hl (k := 2) rfl rfl (by decide) rfl (fun ls hl => ?_)
            refine lv_goto (tgt := 4) hx hb dX10_isOver_35 (by decide) ?_
            exact ih0 _ _ _ h _ _ _ hP hS (lv_sub hl [2, 1, 0] rfl)
  exact L4 _ _ _ _ h _ _ _ hP hS (lv_sub hl [2, 1, 0] rfl)

def lp_X10_run_28 (k : pt_St → Int32 → Int32 → Option (Int32 × pt_St)) (a1 : Int32) : Nat → pt_St → Int32 → Int32 → Option (Int32 × pt_St)
  | 0, _, _, _ => none
  | n + 1, σ, x2, x3 =>
    if a1 ≤ x3 then
    k σ x2 x3
    else
    pt_b2 (f_X10_isOver σ) fun r29002 σ29002 =>
    if r29002 = (0 : Int32) then
    if ¬ (σ29002 0 15) = 0 then
    pt_b2 (f_X10_act σ29002 (((σ29002 0 23) + (1 : Int32)) - ((σ29002 0 23) + (1 : Int32)) / (σ29002 0 15) * (σ29002 0 15))) fun r29005 σ29005 =>
    lp_X10_run_28 k a1 n σ29005 (x2 + r29005) (x3 + (1 : Int32))
    else none
    else
    k σ29002 x2 x3
def kx_X10_run_28 (a1 : Int32) (σ : pt_St) (x2 : Int32) (x3 : Int32) : Option (Int32 × pt_St) :=
  some (x2, σ)
def f_X10_run (σ : pt_St) (a1 : Int32) : Option (Int32 × pt_St) :=
  pt_b2 (f_X10_in σ a1 (0 : Int32) (400 : Int32)) fun r1 σ1 =>
  if r1 = (0 : Int32) then
  some ((-2 : Int32), σ1)
  else
  if (σ1 0 14) = (0 : Int32) then
  some ((-3 : Int32), σ1)
  else
  lp_X10_run_28 (kx_X10_run_28 a1) a1 pt_F σ1 (0 : Int32) (0 : Int32)
set_option maxHeartbeats 4000000 in
set_option maxRecDepth 100000 in
theorem m_X10_run (l : Launch) {D : va_G} {A : Nat → Prop} {ca : Nat → ClassId} {ad : Nat → Nat} {z : Nat × Nat} (hDa : ∀ σ, va_D A (wR ca ad σ)) {σ σ' : pt_St} {r : Int32} {a1 : Int32} (h : f_X10_run σ a1 = some (r, σ')) : Met l yX10_run wsX10_run { frames := 5, cells := 0, slots := 0, locals := 111 } (va_Pc [.ref (ad 0), .int a1] (pt_Pre D (tysR ca) z A (wR ca ad σ))) (pt_Q (some (.int r)) D (wR ca ad σ') A) 0 0 A := by
  refine Met.ofW (cc := cX10_run) (maxL := 4) (ret := (some .int)) (by decide) rfl ?_
  intro p e s m args below meth c s₁ B hml hv
  obtain ⟨rfl, hP, hK, hZ⟩ := hv
  have S : CallFix p m c cX10_run 4 s ([.ref (ad 0), .int a1] : List Value).toArray wsX10_run RX10 := ⟨B.exec, B.bytes, hml, findClass_of_methodNamed B.named, atoms_spec (ws := wsX10_run) B.pre⟩
  have hx := S.1
  have hb := S.2.1
  have hr := B.returns
  have hlk := B.notSynchronized
  clear B
  have hiX10 : ∀ w ∈ wsX100, w ∈ wsX10_run := fun w h => List.mem_cons_of_mem _ (List.mem_append_right _ h)
  have hf82 : (Cond.fieldLink RX10 82 "PackThreadsModel" "isBegun" "Z").before _ s = true := S.2.2.2.2 _ (List.mem_of_getElem? (i := 1) rfl)
  have hf124 : (Cond.fieldLink RX10 124 "PackThreadsModel" "latest" "I").before _ s = true := S.2.2.2.2 _ (List.mem_of_getElem? (i := 2) rfl)
  have hf118 : (Cond.fieldLink RX10 118 "PackThreadsModel" "threads" "I").before _ s = true := S.2.2.2.2 _ (List.mem_of_getElem? (i := 3) rfl)
  have hS : va_S A s.heap s.heap [] := va_S.rf
  have hl := lv_entry ([.ref (ad 0), .int a1]) (n := 4) (Nat.le_of_ble_eq_true rfl)
  rw [lg_entry_eq]
  generalize (lg_sl ([.ref (ad 0), .int a1]) ++ List.replicate (4 - (lg_sl ([.ref (ad 0), .int a1])).length) Slot.unset).toArray = ls at hl ⊢
  have hl : lv_has ls 4 [(0, .ref (ad 0)), (1, .int a1)] := hl
  unfold f_X10_run at h
  refine lv_iload_n hx hb dX10_run_0 rfl (lv_at hl 1 rfl) ?_
  refine lv_iconst (v := 0) hx hb dX10_run_1 (by decide) ?_
  refine lv_sipush (v := 400) hx hb dX10_run_2 (by decide) ?_
  replace h := pt_b2s h; obtain ⟨r1, σ1, e1, h⟩ := h
  refine pt_cSi (As := [.int a1, .int (0 : Int32), .int (400 : Int32)]) (rest := []) S (m_X10_in l hDa e1) (cwS 3 S.2.2.2.2 gX10_run_X10_in rfl rfl rfl (by decide +kernel) ⟨Nat.le_of_ble_eq_true rfl, Nat.le_of_ble_eq_true rfl⟩) hK hP hS hZ rfl hl.1 rfl (Nat.le_of_ble_eq_true rfl) dX10_run_5 ⟨Nat.zero_le _, Nat.zero_le _⟩ (fun H locs hP hS => ?_)
  refine lv_if_ne (tgt := 14) hx hb dX10_run_8 (by decide) (fun c2 => ?_) (fun c2 => ?_)
  · replace h := pt_iN c2 h
    refine lv_aload_n hx hb dX10_run_14 rfl (lv_at hl 0 rfl) ?_
    refine gf_X10_14 S hiX10 hK hP hf82 dX10_run_15 ?_
    refine lv_if_ne (tgt := 24) hx hb dX10_run_18 (by decide) (fun c3 => ?_) (fun c3 => ?_)
    · replace h := pt_iN c3 h
      refine lv_iconst (v := 0) hx hb dX10_run_24 (by decide) ?_
      refine lv_istore_n (lv' := [(2, .int (0 : Int32)), (0, .ref (ad 0)), (1, .int a1)]) hx hb dX10_run_25 rfl hl (by decide) rfl (fun ls hl => ?_)
      refine lv_iconst (v := 0) hx hb dX10_run_26 (by decide) ?_
      refine lv_istore_n (lv' := [(3, .int (0 : Int32)), (2, .int (0 : Int32)), (0, .ref (ad 0)), (1, .int a1)]) hx hb dX10_run_27 rfl hl (by decide) rfl (fun ls hl => ?_)
      have X28 : ∀ (σ : pt_St) (x2 : Int32) (x3 : Int32), kx_X10_run_28 a1 σ x2 x3 = some (r, σ') → ∀ (H : Heap) (locs : List Loc) (ls : Array Slot), va_P D vwCl (wR ca ad σ) H → va_S A s.heap H locs → lv_has ls 4 [(0, .ref (ad 0)), (1, .int a1), (2, .int x2), (3, .int x3)] → W p l e (headSpec wsX10_run { frames := 5, cells := 0, slots := 0, locals := 111 }).room s m ([.ref (ad 0), .int a1] : List Value).toArray below meth c H locs 0 0 (MQ below (pt_Q (some (.int r)) D (wR ca ad σ') A) ([.ref (ad 0), .int a1] : List Value).toArray s 0 0 A) (F0 m 64 ls []) := by
        intro σ x2 x3 h H locs ls hP hS hl
        unfold kx_X10_run_28 at h
        refine lv_iload_n hx hb dX10_run_64 rfl (lv_at hl 2 rfl) ?_
        exact pt_iret S hr hlk hP hS (pt_pr h).1 (congrArg (wR ca ad) (pt_pr h).2) dX10_run_65
      have L28 : ∀ (n : Nat) (σ : pt_St) (x2 : Int32) (x3 : Int32),  lp_X10_run_28 (kx_X10_run_28 a1) a1 n σ x2 x3 = some (r, σ') → ∀ (H : Heap) (locs : List Loc) (ls : Array Slot), va_P D vwCl (wR ca ad σ) H → va_S A s.heap H locs → lv_has ls 4 [(0, .ref (ad 0)), (1, .int a1), (2, .int x2), (3, .int x3)] → W p l e (headSpec wsX10_run { frames := 5, cells := 0, slots := 0, locals := 111 }).room s m ([.ref (ad 0), .int a1] : List Value).toArray below meth c H locs 0 0 (MQ below (pt_Q (some (.int r)) D (wR ca ad σ') A) ([.ref (ad 0), .int a1] : List Value).toArray s 0 0 A) (F0 m 28 ls []) := by
        intro n
        induction n with
        | zero => intro σ x2 x3 h; cases h
        | succ n ih0 =>
          intro σ x2 x3 h H locs ls hP hS hl
          rw [lp_X10_run_28] at h
          refine lv_iload_n hx hb dX10_run_28 rfl (lv_at hl 3 rfl) ?_
          refine lv_iload_n hx hb dX10_run_29 rfl (lv_at hl 1 rfl) ?_
          refine lv_icmp_ge (tgt := 64) hx hb dX10_run_30 (by decide) (fun c29001 => ?_) (fun c29001 => ?_)
          · replace h := pt_ip c29001 h
            exact X28 _ _ _ h _ _ _ hP hS (lv_sub hl [0, 1, 2, 3] rfl)
          · replace h := pt_iN c29001 h
            refine lv_aload_n hx hb dX10_run_33 rfl (lv_at hl 0 rfl) ?_
            replace h := pt_b2s h; obtain ⟨r29002, σ29002, e29002, h⟩ := h
            refine pt_cVi (As := []) (rest := []) S (m_X10_isOver l hDa e29002) (cwV 0 S.2.2.2.2 gX10_run_X10_isOver rfl rfl rfl (by decide +kernel) ⟨Nat.le_of_ble_eq_true rfl, Nat.le_of_ble_eq_true rfl⟩) hK hP hS hZ 0 10 rfl rfl rfl hl.1 rfl (Nat.le_of_ble_eq_true rfl) dX10_run_34 ⟨Nat.zero_le _, Nat.zero_le _⟩ (fun H locs hP hS => ?_)
            refine lv_if_ne (tgt := 64) hx hb dX10_run_37 (by decide) (fun c29003 => ?_) (fun c29003 => ?_)
            · replace h := pt_iN c29003 h
              exact X28 _ _ _ h _ _ _ hP hS (lv_sub hl [0, 1, 2, 3] rfl)
            · replace h := pt_ip c29003 h
              refine lv_iload_n hx hb dX10_run_40 rfl (lv_at hl 2 rfl) ?_
              refine lv_aload_n hx hb dX10_run_41 rfl (lv_at hl 0 rfl) ?_
              refine lv_aload_n hx hb dX10_run_42 rfl (lv_at hl 0 rfl) ?_
              refine gf_X10_23 S hiX10 hK hP hf124 dX10_run_43 ?_
              refine lv_iconst (v := 1) hx hb dX10_run_46 (by decide) ?_
              refine lv_iadd hx hb dX10_run_47 ?_
              refine lv_aload_n hx hb dX10_run_48 rfl (lv_at hl 0 rfl) ?_
              refine gf_X10_15 S hiX10 hK hP hf118 dX10_run_49 ?_
              replace h := pt_gd h; obtain ⟨g29004, h⟩ := h
              refine lv_irem hx hb dX10_run_52 g29004 ?_
              replace h := pt_b2s h; obtain ⟨r29005, σ29005, e29005, h⟩ := h
              refine pt_cVi (As := [.int (((σ29002 0 23) + (1 : Int32)) - ((σ29002 0 23) + (1 : Int32)) / (σ29002 0 15) * (σ29002 0 15))]) (rest := [.int x2]) S (m_X10_act l hDa e29005) (cwV 1 S.2.2.2.2 gX10_run_X10_act rfl rfl rfl (by decide +kernel) ⟨Nat.le_of_ble_eq_true rfl, Nat.le_of_ble_eq_true rfl⟩) hK hP hS hZ 0 10 rfl rfl rfl hl.1 rfl (Nat.le_of_ble_eq_true rfl) dX10_run_53 ⟨Nat.zero_le _, Nat.zero_le _⟩ (fun H locs hP hS => ?_)
              refine lv_iadd hx hb dX10_run_56 ?_
              refine lv_istore_n (lv' := [(2, .int (x2 + r29005)), (0, .ref (ad 0)), (1, .int a1), (3, .int x3)]) hx hb dX10_run_57 rfl hl (by decide) rfl (fun ls hl => ?_)
              refine lv_iinc (v := x3 + (1 : Int32)) (lv' := [(3, .int (x3 + (1 : Int32))), (2, .int (x2 + r29005)), (0, .ref (ad 0)), (1, .int a1)]) hx hb dX10_run_58 hl (k := 3) rfl rfl (by decide) rfl (fun ls hl => ?_)
              refine lv_goto (tgt := 28) hx hb dX10_run_61 (by decide) ?_
              exact ih0 _ _ _ h _ _ _ hP hS (lv_sub hl [2, 3, 1, 0] rfl)
      exact L28 _ _ _ _ h _ _ _ hP hS (lv_sub hl [2, 3, 1, 0] rfl)
    · replace h := pt_ip c3 h
      refine lv_bipush (v := -3) hx hb dX10_run_21 (by decide) ?_
      exact pt_iret S hr hlk hP hS (pt_pr h).1 (congrArg (wR ca ad) (pt_pr h).2) dX10_run_23
  · replace h := pt_ip c2 h
    refine lv_bipush (v := -2) hx hb dX10_run_11 (by decide) ?_
    exact pt_iret S hr hlk hP hS (pt_pr h).1 (congrArg (wR ca ad) (pt_pr h).2) dX10_run_13

def f_X10_interrupt (σ : pt_St) (a1 : Int32) : Option (Int32 × pt_St) :=
  pt_b2 (f_X10_isThread σ a1) fun r1 σ1 =>
  if r1 = (0 : Int32) then
  some ((-2 : Int32), σ1)
  else
  if (σ1 0 14) = (0 : Int32) then
  some ((-3 : Int32), σ1)
  else
  if pt_in a1 6 then
  if (σ1 13 a1.toNatClampNeg) = (0 : Int32) then
  if (σ1 8 a1.toNatClampNeg) = (4 : Int32) then
  some ((0 : Int32), σ1)
  else
  pt_do (pt_put σ1 13 a1.toNatClampNeg (vp_nar .boolean (1 : Int32))) fun σ7 =>
  some ((1 : Int32), σ7)
  else
  some ((0 : Int32), σ1)
  else none
set_option maxHeartbeats 4000000 in
set_option maxRecDepth 100000 in
theorem m_X10_interrupt (l : Launch) {D : va_G} {A : Nat → Prop} {ca : Nat → ClassId} {ad : Nat → Nat} {z : Nat × Nat} (hDa : ∀ σ, va_D A (wR ca ad σ)) {σ σ' : pt_St} {r : Int32} {a1 : Int32} (h : f_X10_interrupt σ a1 = some (r, σ')) : Met l yX10_interrupt wsX10_interrupt { frames := 2, cells := 0, slots := 0, locals := 43 } (va_Pc [.ref (ad 0), .int a1] (pt_Pre D (tysR ca) z A (wR ca ad σ))) (pt_Q (some (.int r)) D (wR ca ad σ') A) 0 0 A := by
  refine Met.ofW (cc := cX10_interrupt) (maxL := 2) (ret := (some .int)) (by decide) rfl ?_
  intro p e s m args below meth c s₁ B hml hv
  obtain ⟨rfl, hP, hK, hZ⟩ := hv
  have S : CallFix p m c cX10_interrupt 2 s ([.ref (ad 0), .int a1] : List Value).toArray wsX10_interrupt RX10 := ⟨B.exec, B.bytes, hml, findClass_of_methodNamed B.named, atoms_spec (ws := wsX10_interrupt) B.pre⟩
  have hx := S.1
  have hb := S.2.1
  have hr := B.returns
  have hlk := B.notSynchronized
  clear B
  have hiX10 : ∀ w ∈ wsX100, w ∈ wsX10_interrupt := fun w h => List.mem_cons_of_mem _ (List.mem_append_right _ h)
  have hf82 : (Cond.fieldLink RX10 82 "PackThreadsModel" "isBegun" "Z").before _ s = true := S.2.2.2.2 _ (List.mem_of_getElem? (i := 1) rfl)
  have hf60 : (Cond.fieldLink RX10 60 "PackThreadsModel" "isInterrupted" "[Z").before _ s = true := S.2.2.2.2 _ (List.mem_of_getElem? (i := 2) rfl)
  have hf45 : (Cond.fieldLink RX10 45 "PackThreadsModel" "state" "[I").before _ s = true := S.2.2.2.2 _ (List.mem_of_getElem? (i := 3) rfl)
  have hS : va_S A s.heap s.heap [] := va_S.rf
  have hl := lv_entry ([.ref (ad 0), .int a1]) (n := 2) (Nat.le_of_ble_eq_true rfl)
  rw [lg_entry_eq]
  generalize (lg_sl ([.ref (ad 0), .int a1]) ++ List.replicate (2 - (lg_sl ([.ref (ad 0), .int a1])).length) Slot.unset).toArray = ls at hl ⊢
  have hl : lv_has ls 2 [(0, .ref (ad 0)), (1, .int a1)] := hl
  unfold f_X10_interrupt at h
  refine lv_aload_n hx hb dX10_interrupt_0 rfl (lv_at hl 0 rfl) ?_
  refine lv_iload_n hx hb dX10_interrupt_1 rfl (lv_at hl 1 rfl) ?_
  replace h := pt_b2s h; obtain ⟨r1, σ1, e1, h⟩ := h
  refine pt_cVi (As := [.int a1]) (rest := []) S (m_X10_isThread l hDa e1) (cwV 1 S.2.2.2.2 gX10_interrupt_X10_isThread rfl rfl rfl (by decide +kernel) ⟨Nat.le_of_ble_eq_true rfl, Nat.le_of_ble_eq_true rfl⟩) hK hP hS hZ 0 10 rfl rfl rfl hl.1 rfl (Nat.le_of_ble_eq_true rfl) dX10_interrupt_2 ⟨Nat.zero_le _, Nat.zero_le _⟩ (fun H locs hP hS => ?_)
  refine lv_if_ne (tgt := 11) hx hb dX10_interrupt_5 (by decide) (fun c2 => ?_) (fun c2 => ?_)
  · replace h := pt_iN c2 h
    refine lv_aload_n hx hb dX10_interrupt_11 rfl (lv_at hl 0 rfl) ?_
    refine gf_X10_14 S hiX10 hK hP hf82 dX10_interrupt_12 ?_
    refine lv_if_ne (tgt := 21) hx hb dX10_interrupt_15 (by decide) (fun c3 => ?_) (fun c3 => ?_)
    · replace h := pt_iN c3 h
      refine lv_aload_n hx hb dX10_interrupt_21 rfl (lv_at hl 0 rfl) ?_
      refine gf_X10_22 S hiX10 hK hP hf60 dX10_interrupt_22 ?_
      refine lv_iload_n hx hb dX10_interrupt_25 rfl (lv_at hl 1 rfl) ?_
      replace h := pt_gd h; obtain ⟨g4, h⟩ := h
      refine ld_R_13 S hK hP g4 dX10_interrupt_26 ?_
      refine lv_if_ne (tgt := 40) hx hb dX10_interrupt_27 (by decide) (fun c5 => ?_) (fun c5 => ?_)
      · replace h := pt_iN c5 h
        refine lv_iconst (v := 0) hx hb dX10_interrupt_40 (by decide) ?_
        exact pt_iret S hr hlk hP hS (pt_pr h).1 (congrArg (wR ca ad) (pt_pr h).2) dX10_interrupt_41
      · replace h := pt_ip c5 h
        refine lv_aload_n hx hb dX10_interrupt_30 rfl (lv_at hl 0 rfl) ?_
        refine gf_X10_17 S hiX10 hK hP hf45 dX10_interrupt_31 ?_
        refine lv_iload_n hx hb dX10_interrupt_34 rfl (lv_at hl 1 rfl) ?_
        refine ld_R_8 S hK hP g4 dX10_interrupt_35 ?_
        refine lv_iconst (v := 4) hx hb dX10_interrupt_36 (by decide) ?_
        refine lv_icmp_ne (tgt := 42) hx hb dX10_interrupt_37 (by decide) (fun c6 => ?_) (fun c6 => ?_)
        · replace h := pt_iN c6 h
          refine lv_aload_n hx hb dX10_interrupt_42 rfl (lv_at hl 0 rfl) ?_
          refine gf_X10_22 S hiX10 hK hP hf60 dX10_interrupt_43 ?_
          refine lv_iload_n hx hb dX10_interrupt_46 rfl (lv_at hl 1 rfl) ?_
          refine lv_iconst (v := 1) hx hb dX10_interrupt_47 (by decide) ?_
          replace h := pt_dos h; obtain ⟨σ7, e7, h⟩ := h
          refine st_R_13 S hK hP hDa hS g4 e7 dX10_interrupt_48 (fun H locs hP hS => ?_)
          refine lv_iconst (v := 1) hx hb dX10_interrupt_49 (by decide) ?_
          exact pt_iret S hr hlk hP hS (pt_pr h).1 (congrArg (wR ca ad) (pt_pr h).2) dX10_interrupt_50
        · replace h := pt_ip c6 h
          refine lv_iconst (v := 0) hx hb dX10_interrupt_40 (by decide) ?_
          exact pt_iret S hr hlk hP hS (pt_pr h).1 (congrArg (wR ca ad) (pt_pr h).2) dX10_interrupt_41
    · replace h := pt_ip c3 h
      refine lv_bipush (v := -3) hx hb dX10_interrupt_18 (by decide) ?_
      exact pt_iret S hr hlk hP hS (pt_pr h).1 (congrArg (wR ca ad) (pt_pr h).2) dX10_interrupt_20
  · replace h := pt_ip c2 h
    refine lv_bipush (v := -2) hx hb dX10_interrupt_8 (by decide) ?_
    exact pt_iret S hr hlk hP hS (pt_pr h).1 (congrArg (wR ca ad) (pt_pr h).2) dX10_interrupt_10

def f_X10_thread (σ : pt_St) (a1 : Int32) (a2 : Int32) : Option (Int32 × pt_St) :=
  pt_b2 (f_X10_isThread σ a1) fun r1 σ1 =>
  if r1 = (0 : Int32) then
  some ((-2 : Int32), σ1)
  else
  pt_b2 (f_X10_in σ1 a2 (0 : Int32) (4 : Int32)) fun r3 σ3 =>
  if r3 = (0 : Int32) then
  some ((-2 : Int32), σ3)
  else
  if (σ3 0 14) = (0 : Int32) then
  some ((-3 : Int32), σ3)
  else
  if a2 = (0 : Int32) then
  if pt_in a1 6 then
  some ((σ3 8 a1.toNatClampNeg), σ3)
  else none
  else
  if a2 = (1 : Int32) then
  if pt_in a1 6 then
  some ((σ3 9 a1.toNatClampNeg), σ3)
  else none
  else
  if a2 = (2 : Int32) then
  if pt_in a1 6 then
  if (σ3 8 a1.toNatClampNeg) = (2 : Int32) then
  some ((σ3 10 a1.toNatClampNeg), σ3)
  else
  some ((-1 : Int32), σ3)
  else none
  else
  if a2 = (3 : Int32) then
  if pt_in a1 6 then
  some ((σ3 11 a1.toNatClampNeg), σ3)
  else none
  else
  if pt_in a1 6 then
  some ((σ3 12 a1.toNatClampNeg), σ3)
  else none
set_option maxHeartbeats 4000000 in
set_option maxRecDepth 100000 in
theorem m_X10_thread (l : Launch) {D : va_G} {A : Nat → Prop} {ca : Nat → ClassId} {ad : Nat → Nat} {z : Nat × Nat} (hDa : ∀ σ, va_D A (wR ca ad σ)) {σ σ' : pt_St} {r : Int32} {a1 : Int32} {a2 : Int32} (h : f_X10_thread σ a1 a2 = some (r, σ')) : Met l yX10_thread wsX10_thread { frames := 2, cells := 0, slots := 0, locals := 43 } (va_Pc [.ref (ad 0), .int a1, .int a2] (pt_Pre D (tysR ca) z A (wR ca ad σ))) (pt_Q (some (.int r)) D (wR ca ad σ') A) 0 0 A := by
  refine Met.ofW (cc := cX10_thread) (maxL := 3) (ret := (some .int)) (by decide) rfl ?_
  intro p e s m args below meth c s₁ B hml hv
  obtain ⟨rfl, hP, hK, hZ⟩ := hv
  have S : CallFix p m c cX10_thread 3 s ([.ref (ad 0), .int a1, .int a2] : List Value).toArray wsX10_thread RX10 := ⟨B.exec, B.bytes, hml, findClass_of_methodNamed B.named, atoms_spec (ws := wsX10_thread) B.pre⟩
  have hx := S.1
  have hb := S.2.1
  have hr := B.returns
  have hlk := B.notSynchronized
  clear B
  have hiX10 : ∀ w ∈ wsX100, w ∈ wsX10_thread := fun w h => List.mem_cons_of_mem _ (List.mem_append_right _ h)
  have hf82 : (Cond.fieldLink RX10 82 "PackThreadsModel" "isBegun" "Z").before _ s = true := S.2.2.2.2 _ (List.mem_of_getElem? (i := 1) rfl)
  have hf45 : (Cond.fieldLink RX10 45 "PackThreadsModel" "state" "[I").before _ s = true := S.2.2.2.2 _ (List.mem_of_getElem? (i := 2) rfl)
  have hf48 : (Cond.fieldLink RX10 48 "PackThreadsModel" "block" "[I").before _ s = true := S.2.2.2.2 _ (List.mem_of_getElem? (i := 3) rfl)
  have hf51 : (Cond.fieldLink RX10 51 "PackThreadsModel" "step" "[I").before _ s = true := S.2.2.2.2 _ (List.mem_of_getElem? (i := 4) rfl)
  have hf54 : (Cond.fieldLink RX10 54 "PackThreadsModel" "made" "[I").before _ s = true := S.2.2.2.2 _ (List.mem_of_getElem? (i := 5) rfl)
  have hf57 : (Cond.fieldLink RX10 57 "PackThreadsModel" "ended" "[I").before _ s = true := S.2.2.2.2 _ (List.mem_of_getElem? (i := 6) rfl)
  have hS : va_S A s.heap s.heap [] := va_S.rf
  have hl := lv_entry ([.ref (ad 0), .int a1, .int a2]) (n := 3) (Nat.le_of_ble_eq_true rfl)
  rw [lg_entry_eq]
  generalize (lg_sl ([.ref (ad 0), .int a1, .int a2]) ++ List.replicate (3 - (lg_sl ([.ref (ad 0), .int a1, .int a2])).length) Slot.unset).toArray = ls at hl ⊢
  have hl : lv_has ls 3 [(0, .ref (ad 0)), (1, .int a1), (2, .int a2)] := hl
  unfold f_X10_thread at h
  refine lv_aload_n hx hb dX10_thread_0 rfl (lv_at hl 0 rfl) ?_
  refine lv_iload_n hx hb dX10_thread_1 rfl (lv_at hl 1 rfl) ?_
  replace h := pt_b2s h; obtain ⟨r1, σ1, e1, h⟩ := h
  refine pt_cVi (As := [.int a1]) (rest := []) S (m_X10_isThread l hDa e1) (cwV 1 S.2.2.2.2 gX10_thread_X10_isThread rfl rfl rfl (by decide +kernel) ⟨Nat.le_of_ble_eq_true rfl, Nat.le_of_ble_eq_true rfl⟩) hK hP hS hZ 0 10 rfl rfl rfl hl.1 rfl (Nat.le_of_ble_eq_true rfl) dX10_thread_2 ⟨Nat.zero_le _, Nat.zero_le _⟩ (fun H locs hP hS => ?_)
  refine lv_if_eq (tgt := 17) hx hb dX10_thread_5 (by decide) (fun c2 => ?_) (fun c2 => ?_)
  · replace h := pt_ip c2 h
    refine lv_bipush (v := -2) hx hb dX10_thread_17 (by decide) ?_
    exact pt_iret S hr hlk hP hS (pt_pr h).1 (congrArg (wR ca ad) (pt_pr h).2) dX10_thread_19
  · replace h := pt_iN c2 h
    refine lv_iload_n hx hb dX10_thread_8 rfl (lv_at hl 2 rfl) ?_
    refine lv_iconst (v := 0) hx hb dX10_thread_9 (by decide) ?_
    refine lv_iconst (v := 4) hx hb dX10_thread_10 (by decide) ?_
    replace h := pt_b2s h; obtain ⟨r3, σ3, e3, h⟩ := h
    refine pt_cSi (As := [.int a2, .int (0 : Int32), .int (4 : Int32)]) (rest := []) S (m_X10_in l hDa e3) (cwS 3 S.2.2.2.2 gX10_thread_X10_in rfl rfl rfl (by decide +kernel) ⟨Nat.le_of_ble_eq_true rfl, Nat.le_of_ble_eq_true rfl⟩) hK hP hS hZ rfl hl.1 rfl (Nat.le_of_ble_eq_true rfl) dX10_thread_11 ⟨Nat.zero_le _, Nat.zero_le _⟩ (fun H locs hP hS => ?_)
    refine lv_if_ne (tgt := 20) hx hb dX10_thread_14 (by decide) (fun c4 => ?_) (fun c4 => ?_)
    · replace h := pt_iN c4 h
      refine lv_aload_n hx hb dX10_thread_20 rfl (lv_at hl 0 rfl) ?_
      refine gf_X10_14 S hiX10 hK hP hf82 dX10_thread_21 ?_
      refine lv_if_ne (tgt := 30) hx hb dX10_thread_24 (by decide) (fun c5 => ?_) (fun c5 => ?_)
      · replace h := pt_iN c5 h
        refine lv_iload_n hx hb dX10_thread_30 rfl (lv_at hl 2 rfl) ?_
        by_cases c6 : a2 = (0 : Int32)
        · replace h := pt_ip c6 h
          refine lv_tableIn (off := 29) (tgt := 60) hx hb dX10_thread_31 (by rw [c6]; decide) (by rw [c6]; decide) (by rw [c6]; rfl) (by decide) ?_
          refine lv_aload_n hx hb dX10_thread_60 rfl (lv_at hl 0 rfl) ?_
          refine gf_X10_17 S hiX10 hK hP hf45 dX10_thread_61 ?_
          refine lv_iload_n hx hb dX10_thread_64 rfl (lv_at hl 1 rfl) ?_
          replace h := pt_gd h; obtain ⟨g7, h⟩ := h
          refine ld_R_8 S hK hP g7 dX10_thread_65 ?_
          exact pt_iret S hr hlk hP hS (pt_pr h).1 (congrArg (wR ca ad) (pt_pr h).2) dX10_thread_66
        · replace h := pt_iN c6 h
          by_cases c8 : a2 = (1 : Int32)
          · replace h := pt_ip c8 h
            refine lv_tableIn (off := 36) (tgt := 67) hx hb dX10_thread_31 (by rw [c8]; decide) (by rw [c8]; decide) (by rw [c8]; rfl) (by decide) ?_
            refine lv_aload_n hx hb dX10_thread_67 rfl (lv_at hl 0 rfl) ?_
            refine gf_X10_18 S hiX10 hK hP hf48 dX10_thread_68 ?_
            refine lv_iload_n hx hb dX10_thread_71 rfl (lv_at hl 1 rfl) ?_
            replace h := pt_gd h; obtain ⟨g9, h⟩ := h
            refine ld_R_9 S hK hP g9 dX10_thread_72 ?_
            exact pt_iret S hr hlk hP hS (pt_pr h).1 (congrArg (wR ca ad) (pt_pr h).2) dX10_thread_73
          · replace h := pt_iN c8 h
            by_cases c10 : a2 = (2 : Int32)
            · replace h := pt_ip c10 h
              refine lv_tableIn (off := 43) (tgt := 74) hx hb dX10_thread_31 (by rw [c10]; decide) (by rw [c10]; decide) (by rw [c10]; rfl) (by decide) ?_
              refine lv_aload_n hx hb dX10_thread_74 rfl (lv_at hl 0 rfl) ?_
              refine gf_X10_17 S hiX10 hK hP hf45 dX10_thread_75 ?_
              refine lv_iload_n hx hb dX10_thread_78 rfl (lv_at hl 1 rfl) ?_
              replace h := pt_gd h; obtain ⟨g11, h⟩ := h
              refine ld_R_8 S hK hP g11 dX10_thread_79 ?_
              refine lv_iconst (v := 2) hx hb dX10_thread_80 (by decide) ?_
              refine lv_icmp_ne (tgt := 93) hx hb dX10_thread_81 (by decide) (fun c12 => ?_) (fun c12 => ?_)
              · replace h := pt_iN c12 h
                refine lv_iconst (v := -1) hx hb dX10_thread_93 (by decide) ?_
                exact pt_iret S hr hlk hP hS (pt_pr h).1 (congrArg (wR ca ad) (pt_pr h).2) dX10_thread_94
              · replace h := pt_ip c12 h
                refine lv_aload_n hx hb dX10_thread_84 rfl (lv_at hl 0 rfl) ?_
                refine gf_X10_19 S hiX10 hK hP hf51 dX10_thread_85 ?_
                refine lv_iload_n hx hb dX10_thread_88 rfl (lv_at hl 1 rfl) ?_
                refine ld_R_10 S hK hP g11 dX10_thread_89 ?_
                refine lv_goto (tgt := 94) hx hb dX10_thread_90 (by decide) ?_
                exact pt_iret S hr hlk hP hS (pt_pr h).1 (congrArg (wR ca ad) (pt_pr h).2) dX10_thread_94
            · replace h := pt_iN c10 h
              by_cases c13 : a2 = (3 : Int32)
              · replace h := pt_ip c13 h
                refine lv_tableIn (off := 64) (tgt := 95) hx hb dX10_thread_31 (by rw [c13]; decide) (by rw [c13]; decide) (by rw [c13]; rfl) (by decide) ?_
                refine lv_aload_n hx hb dX10_thread_95 rfl (lv_at hl 0 rfl) ?_
                refine gf_X10_20 S hiX10 hK hP hf54 dX10_thread_96 ?_
                refine lv_iload_n hx hb dX10_thread_99 rfl (lv_at hl 1 rfl) ?_
                replace h := pt_gd h; obtain ⟨g14, h⟩ := h
                refine ld_R_11 S hK hP g14 dX10_thread_100 ?_
                exact pt_iret S hr hlk hP hS (pt_pr h).1 (congrArg (wR ca ad) (pt_pr h).2) dX10_thread_101
              · replace h := pt_iN c13 h
                refine lv_tableOut (tgt := 102) hx hb dX10_thread_31 (by have q0 := lv_neT c6 (a := 0) (by decide); have q1 := lv_neT c8 (a := 1) (by decide); have q2 := lv_neT c10 (a := 2) (by decide); have q3 := lv_neT c13 (a := 3) (by decide); omega) (by decide) ?_
                refine lv_aload_n hx hb dX10_thread_102 rfl (lv_at hl 0 rfl) ?_
                refine gf_X10_21 S hiX10 hK hP hf57 dX10_thread_103 ?_
                refine lv_iload_n hx hb dX10_thread_106 rfl (lv_at hl 1 rfl) ?_
                replace h := pt_gd h; obtain ⟨g15, h⟩ := h
                refine ld_R_12 S hK hP g15 dX10_thread_107 ?_
                exact pt_iret S hr hlk hP hS (pt_pr h).1 (congrArg (wR ca ad) (pt_pr h).2) dX10_thread_108
      · replace h := pt_ip c5 h
        refine lv_bipush (v := -3) hx hb dX10_thread_27 (by decide) ?_
        exact pt_iret S hr hlk hP hS (pt_pr h).1 (congrArg (wR ca ad) (pt_pr h).2) dX10_thread_29
    · replace h := pt_ip c4 h
      refine lv_bipush (v := -2) hx hb dX10_thread_17 (by decide) ?_
      exact pt_iret S hr hlk hP hS (pt_pr h).1 (congrArg (wR ca ad) (pt_pr h).2) dX10_thread_19

def f_X10_outSize (σ : pt_St) : Option (Int32 × pt_St) :=
  if (σ 0 14) = (0 : Int32) then
  some ((0 : Int32), σ)
  else
  if (σ 0 30) ≤ (0 : Int32) then
  some ((0 : Int32), σ)
  else
  if pt_in ((σ 0 30) - (1 : Int32)) 40 then
  some ((σ 6 ((σ 0 30) - (1 : Int32)).toNatClampNeg), σ)
  else none
set_option maxHeartbeats 4000000 in
set_option maxRecDepth 100000 in
theorem m_X10_outSize (l : Launch) {D : va_G} {A : Nat → Prop} {ca : Nat → ClassId} {ad : Nat → Nat} {z : Nat × Nat} (hDa : ∀ σ, va_D A (wR ca ad σ)) {σ σ' : pt_St} {r : Int32} (h : f_X10_outSize σ = some (r, σ')) : Met l yX10_outSize wsX10_outSize { frames := 0, cells := 0, slots := 0, locals := 0 } (va_Pc [.ref (ad 0)] (pt_Pre D (tysR ca) z A (wR ca ad σ))) (pt_Q (some (.int r)) D (wR ca ad σ') A) 0 0 A := by
  refine Met.ofW (cc := cX10_outSize) (maxL := 1) (ret := (some .int)) (by decide) rfl ?_
  intro p e s m args below meth c s₁ B hml hv
  obtain ⟨rfl, hP, hK, hZ⟩ := hv
  have S : CallFix p m c cX10_outSize 1 s ([.ref (ad 0)] : List Value).toArray wsX10_outSize RX10 := ⟨B.exec, B.bytes, hml, findClass_of_methodNamed B.named, atoms_spec (ws := wsX10_outSize) B.pre⟩
  have hx := S.1
  have hb := S.2.1
  have hr := B.returns
  have hlk := B.notSynchronized
  clear B
  have hiX10 : ∀ w ∈ wsX100, w ∈ wsX10_outSize := fun w h => List.mem_cons_of_mem _ (List.mem_append_right _ h)
  have hf82 : (Cond.fieldLink RX10 82 "PackThreadsModel" "isBegun" "Z").before _ s = true := S.2.2.2.2 _ (List.mem_of_getElem? (i := 1) rfl)
  have hf136 : (Cond.fieldLink RX10 136 "PackThreadsModel" "joined" "I").before _ s = true := S.2.2.2.2 _ (List.mem_of_getElem? (i := 2) rfl)
  have hf39 : (Cond.fieldLink RX10 39 "PackThreadsModel" "packEnd" "[I").before _ s = true := S.2.2.2.2 _ (List.mem_of_getElem? (i := 3) rfl)
  have hS : va_S A s.heap s.heap [] := va_S.rf
  have hl := lv_entry ([.ref (ad 0)]) (n := 1) (Nat.le_of_ble_eq_true rfl)
  rw [lg_entry_eq]
  generalize (lg_sl ([.ref (ad 0)]) ++ List.replicate (1 - (lg_sl ([.ref (ad 0)])).length) Slot.unset).toArray = ls at hl ⊢
  have hl : lv_has ls 1 [(0, .ref (ad 0))] := hl
  unfold f_X10_outSize at h
  refine lv_aload_n hx hb dX10_outSize_0 rfl (lv_at hl 0 rfl) ?_
  refine gf_X10_14 S hiX10 hK hP hf82 dX10_outSize_1 ?_
  refine lv_if_eq (tgt := 28) hx hb dX10_outSize_4 (by decide) (fun c1 => ?_) (fun c1 => ?_)
  · replace h := pt_ip c1 h
    refine lv_iconst (v := 0) hx hb dX10_outSize_28 (by decide) ?_
    exact pt_iret S hr hlk hP hS (pt_pr h).1 (congrArg (wR ca ad) (pt_pr h).2) dX10_outSize_29
  · replace h := pt_iN c1 h
    refine lv_aload_n hx hb dX10_outSize_7 rfl (lv_at hl 0 rfl) ?_
    refine gf_X10_30 S hiX10 hK hP hf136 dX10_outSize_8 ?_
    refine lv_if_le (tgt := 28) hx hb dX10_outSize_11 (by decide) (fun c2 => ?_) (fun c2 => ?_)
    · replace h := pt_ip c2 h
      refine lv_iconst (v := 0) hx hb dX10_outSize_28 (by decide) ?_
      exact pt_iret S hr hlk hP hS (pt_pr h).1 (congrArg (wR ca ad) (pt_pr h).2) dX10_outSize_29
    · replace h := pt_iN c2 h
      refine lv_aload_n hx hb dX10_outSize_14 rfl (lv_at hl 0 rfl) ?_
      refine gf_X10_12 S hiX10 hK hP hf39 dX10_outSize_15 ?_
      refine lv_aload_n hx hb dX10_outSize_18 rfl (lv_at hl 0 rfl) ?_
      refine gf_X10_30 S hiX10 hK hP hf136 dX10_outSize_19 ?_
      refine lv_iconst (v := 1) hx hb dX10_outSize_22 (by decide) ?_
      refine lv_isub hx hb dX10_outSize_23 ?_
      replace h := pt_gd h; obtain ⟨g3, h⟩ := h
      refine ld_R_6 S hK hP g3 dX10_outSize_24 ?_
      refine lv_goto (tgt := 29) hx hb dX10_outSize_25 (by decide) ?_
      exact pt_iret S hr hlk hP hS (pt_pr h).1 (congrArg (wR ca ad) (pt_pr h).2) dX10_outSize_29

def f_X10_out (σ : pt_St) (a1 : Int32) : Option (Int32 × pt_St) :=
  pt_b2 (f_X10_outSize σ) fun r1 σ1 =>
  pt_b2 (f_X10_in σ1 a1 (0 : Int32) (r1 - (1 : Int32))) fun r2 σ2 =>
  if r2 = (0 : Int32) then
  some ((-1 : Int32), σ2)
  else
  if pt_in a1 700 then
  some ((σ2 5 a1.toNatClampNeg), σ2)
  else none
set_option maxHeartbeats 4000000 in
set_option maxRecDepth 100000 in
theorem m_X10_out (l : Launch) {D : va_G} {A : Nat → Prop} {ca : Nat → ClassId} {ad : Nat → Nat} {z : Nat × Nat} (hDa : ∀ σ, va_D A (wR ca ad σ)) {σ σ' : pt_St} {r : Int32} {a1 : Int32} (h : f_X10_out σ a1 = some (r, σ')) : Met l yX10_out wsX10_out { frames := 1, cells := 0, slots := 0, locals := 22 } (va_Pc [.ref (ad 0), .int a1] (pt_Pre D (tysR ca) z A (wR ca ad σ))) (pt_Q (some (.int r)) D (wR ca ad σ') A) 0 0 A := by
  refine Met.ofW (cc := cX10_out) (maxL := 2) (ret := (some .int)) (by decide) rfl ?_
  intro p e s m args below meth c s₁ B hml hv
  obtain ⟨rfl, hP, hK, hZ⟩ := hv
  have S : CallFix p m c cX10_out 2 s ([.ref (ad 0), .int a1] : List Value).toArray wsX10_out RX10 := ⟨B.exec, B.bytes, hml, findClass_of_methodNamed B.named, atoms_spec (ws := wsX10_out) B.pre⟩
  have hx := S.1
  have hb := S.2.1
  have hr := B.returns
  have hlk := B.notSynchronized
  clear B
  have hiX10 : ∀ w ∈ wsX100, w ∈ wsX10_out := fun w h => List.mem_cons_of_mem _ (List.mem_append_right _ h)
  have hf36 : (Cond.fieldLink RX10 36 "PackThreadsModel" "pack" "[I").before _ s = true := S.2.2.2.2 _ (List.mem_of_getElem? (i := 1) rfl)
  have hS : va_S A s.heap s.heap [] := va_S.rf
  have hl := lv_entry ([.ref (ad 0), .int a1]) (n := 2) (Nat.le_of_ble_eq_true rfl)
  rw [lg_entry_eq]
  generalize (lg_sl ([.ref (ad 0), .int a1]) ++ List.replicate (2 - (lg_sl ([.ref (ad 0), .int a1])).length) Slot.unset).toArray = ls at hl ⊢
  have hl : lv_has ls 2 [(0, .ref (ad 0)), (1, .int a1)] := hl
  unfold f_X10_out at h
  refine lv_iload_n hx hb dX10_out_0 rfl (lv_at hl 1 rfl) ?_
  refine lv_iconst (v := 0) hx hb dX10_out_1 (by decide) ?_
  refine lv_aload_n hx hb dX10_out_2 rfl (lv_at hl 0 rfl) ?_
  replace h := pt_b2s h; obtain ⟨r1, σ1, e1, h⟩ := h
  refine pt_cVi (As := []) (rest := [.int (0 : Int32), .int a1]) S (m_X10_outSize l hDa e1) (cwV 0 S.2.2.2.2 gX10_out_X10_outSize rfl rfl rfl (by decide +kernel) ⟨Nat.le_of_ble_eq_true rfl, Nat.le_of_ble_eq_true rfl⟩) hK hP hS hZ 0 10 rfl rfl rfl hl.1 rfl (Nat.le_of_ble_eq_true rfl) dX10_out_3 ⟨Nat.zero_le _, Nat.zero_le _⟩ (fun H locs hP hS => ?_)
  refine lv_iconst (v := 1) hx hb dX10_out_6 (by decide) ?_
  refine lv_isub hx hb dX10_out_7 ?_
  replace h := pt_b2s h; obtain ⟨r2, σ2, e2, h⟩ := h
  refine pt_cSi (As := [.int a1, .int (0 : Int32), .int (r1 - (1 : Int32))]) (rest := []) S (m_X10_in l hDa e2) (cwS 3 S.2.2.2.2 gX10_out_X10_in rfl rfl rfl (by decide +kernel) ⟨Nat.le_of_ble_eq_true rfl, Nat.le_of_ble_eq_true rfl⟩) hK hP hS hZ rfl hl.1 rfl (Nat.le_of_ble_eq_true rfl) dX10_out_8 ⟨Nat.zero_le _, Nat.zero_le _⟩ (fun H locs hP hS => ?_)
  refine lv_if_eq (tgt := 23) hx hb dX10_out_11 (by decide) (fun c3 => ?_) (fun c3 => ?_)
  · replace h := pt_ip c3 h
    refine lv_iconst (v := -1) hx hb dX10_out_23 (by decide) ?_
    exact pt_iret S hr hlk hP hS (pt_pr h).1 (congrArg (wR ca ad) (pt_pr h).2) dX10_out_24
  · replace h := pt_iN c3 h
    refine lv_aload_n hx hb dX10_out_14 rfl (lv_at hl 0 rfl) ?_
    refine gf_X10_11 S hiX10 hK hP hf36 dX10_out_15 ?_
    refine lv_iload_n hx hb dX10_out_18 rfl (lv_at hl 1 rfl) ?_
    replace h := pt_gd h; obtain ⟨g4, h⟩ := h
    refine ld_R_5 S hK hP g4 dX10_out_19 ?_
    refine lv_goto (tgt := 24) hx hb dX10_out_20 (by decide) ?_
    exact pt_iret S hr hlk hP hS (pt_pr h).1 (congrArg (wR ca ad) (pt_pr h).2) dX10_out_24

def f_X10_told (σ : pt_St) (a1 : Int32) : Option (Int32 × pt_St) :=
  pt_b2 (f_X10_in σ a1 (0 : Int32) (10 : Int32)) fun r1 σ1 =>
  if r1 = (0 : Int32) then
  some ((-2 : Int32), σ1)
  else
  if (σ1 0 14) = (0 : Int32) then
  some ((-3 : Int32), σ1)
  else
  if a1 = (0 : Int32) then
  some ((σ1 0 16), σ1)
  else
  if a1 = (1 : Int32) then
  some ((σ1 0 30), σ1)
  else
  if a1 = (2 : Int32) then
  pt_b2 (f_X10_outSize σ1) fun r7 σ7 =>
  some (r7, σ7)
  else
  if a1 = (3 : Int32) then
  some ((σ1 0 31), σ1)
  else
  if a1 = (4 : Int32) then
  some ((σ1 0 33), σ1)
  else
  if a1 = (5 : Int32) then
  some ((σ1 0 29), σ1)
  else
  if a1 = (6 : Int32) then
  some ((σ1 0 34), σ1)
  else
  if a1 = (7 : Int32) then
  some ((σ1 0 35), σ1)
  else
  if a1 = (8 : Int32) then
  some ((σ1 0 36), σ1)
  else
  if a1 = (9 : Int32) then
  some ((σ1 0 37), σ1)
  else
  some ((σ1 0 27), σ1)
set_option maxHeartbeats 4000000 in
set_option maxRecDepth 100000 in
theorem m_X10_told (l : Launch) {D : va_G} {A : Nat → Prop} {ca : Nat → ClassId} {ad : Nat → Nat} {z : Nat × Nat} (hDa : ∀ σ, va_D A (wR ca ad σ)) {σ σ' : pt_St} {r : Int32} {a1 : Int32} (h : f_X10_told σ a1 = some (r, σ')) : Met l yX10_told wsX10_told { frames := 1, cells := 0, slots := 0, locals := 22 } (va_Pc [.ref (ad 0), .int a1] (pt_Pre D (tysR ca) z A (wR ca ad σ))) (pt_Q (some (.int r)) D (wR ca ad σ') A) 0 0 A := by
  refine Met.ofW (cc := cX10_told) (maxL := 2) (ret := (some .int)) (by decide) rfl ?_
  intro p e s m args below meth c s₁ B hml hv
  obtain ⟨rfl, hP, hK, hZ⟩ := hv
  have S : CallFix p m c cX10_told 2 s ([.ref (ad 0), .int a1] : List Value).toArray wsX10_told RX10 := ⟨B.exec, B.bytes, hml, findClass_of_methodNamed B.named, atoms_spec (ws := wsX10_told) B.pre⟩
  have hx := S.1
  have hb := S.2.1
  have hr := B.returns
  have hlk := B.notSynchronized
  clear B
  have hiX10 : ∀ w ∈ wsX100, w ∈ wsX10_told := fun w h => List.mem_cons_of_mem _ (List.mem_append_right _ h)
  have hf82 : (Cond.fieldLink RX10 82 "PackThreadsModel" "isBegun" "Z").before _ s = true := S.2.2.2.2 _ (List.mem_of_getElem? (i := 1) rfl)
  have hf121 : (Cond.fieldLink RX10 121 "PackThreadsModel" "blocks" "I").before _ s = true := S.2.2.2.2 _ (List.mem_of_getElem? (i := 2) rfl)
  have hf136 : (Cond.fieldLink RX10 136 "PackThreadsModel" "joined" "I").before _ s = true := S.2.2.2.2 _ (List.mem_of_getElem? (i := 3) rfl)
  have hf139 : (Cond.fieldLink RX10 139 "PackThreadsModel" "left" "I").before _ s = true := S.2.2.2.2 _ (List.mem_of_getElem? (i := 4) rfl)
  have hf142 : (Cond.fieldLink RX10 142 "PackThreadsModel" "lineMany" "I").before _ s = true := S.2.2.2.2 _ (List.mem_of_getElem? (i := 5) rfl)
  have hf133 : (Cond.fieldLink RX10 133 "PackThreadsModel" "rowMany" "I").before _ s = true := S.2.2.2.2 _ (List.mem_of_getElem? (i := 6) rfl)
  have hf145 : (Cond.fieldLink RX10 145 "PackThreadsModel" "stopBlock" "I").before _ s = true := S.2.2.2.2 _ (List.mem_of_getElem? (i := 7) rfl)
  have hf148 : (Cond.fieldLink RX10 148 "PackThreadsModel" "stopKind" "I").before _ s = true := S.2.2.2.2 _ (List.mem_of_getElem? (i := 8) rfl)
  have hf151 : (Cond.fieldLink RX10 151 "PackThreadsModel" "failures" "I").before _ s = true := S.2.2.2.2 _ (List.mem_of_getElem? (i := 9) rfl)
  have hf154 : (Cond.fieldLink RX10 154 "PackThreadsModel" "turns" "I").before _ s = true := S.2.2.2.2 _ (List.mem_of_getElem? (i := 10) rfl)
  have hf130 : (Cond.fieldLink RX10 130 "PackThreadsModel" "againMany" "I").before _ s = true := S.2.2.2.2 _ (List.mem_of_getElem? (i := 11) rfl)
  have hS : va_S A s.heap s.heap [] := va_S.rf
  have hl := lv_entry ([.ref (ad 0), .int a1]) (n := 2) (Nat.le_of_ble_eq_true rfl)
  rw [lg_entry_eq]
  generalize (lg_sl ([.ref (ad 0), .int a1]) ++ List.replicate (2 - (lg_sl ([.ref (ad 0), .int a1])).length) Slot.unset).toArray = ls at hl ⊢
  have hl : lv_has ls 2 [(0, .ref (ad 0)), (1, .int a1)] := hl
  unfold f_X10_told at h
  refine lv_iload_n hx hb dX10_told_0 rfl (lv_at hl 1 rfl) ?_
  refine lv_iconst (v := 0) hx hb dX10_told_1 (by decide) ?_
  refine lv_bipush (v := 10) hx hb dX10_told_2 (by decide) ?_
  replace h := pt_b2s h; obtain ⟨r1, σ1, e1, h⟩ := h
  refine pt_cSi (As := [.int a1, .int (0 : Int32), .int (10 : Int32)]) (rest := []) S (m_X10_in l hDa e1) (cwS 3 S.2.2.2.2 gX10_told_X10_in rfl rfl rfl (by decide +kernel) ⟨Nat.le_of_ble_eq_true rfl, Nat.le_of_ble_eq_true rfl⟩) hK hP hS hZ rfl hl.1 rfl (Nat.le_of_ble_eq_true rfl) dX10_told_4 ⟨Nat.zero_le _, Nat.zero_le _⟩ (fun H locs hP hS => ?_)
  refine lv_if_ne (tgt := 13) hx hb dX10_told_7 (by decide) (fun c2 => ?_) (fun c2 => ?_)
  · replace h := pt_iN c2 h
    refine lv_aload_n hx hb dX10_told_13 rfl (lv_at hl 0 rfl) ?_
    refine gf_X10_14 S hiX10 hK hP hf82 dX10_told_14 ?_
    refine lv_if_ne (tgt := 23) hx hb dX10_told_17 (by decide) (fun c3 => ?_) (fun c3 => ?_)
    · replace h := pt_iN c3 h
      refine lv_iload_n hx hb dX10_told_23 rfl (lv_at hl 1 rfl) ?_
      by_cases c4 : a1 = (0 : Int32)
      · replace h := pt_ip c4 h
        refine lv_tableIn (off := 56) (tgt := 80) hx hb dX10_told_24 (by rw [c4]; decide) (by rw [c4]; decide) (by rw [c4]; rfl) (by decide) ?_
        refine lv_aload_n hx hb dX10_told_80 rfl (lv_at hl 0 rfl) ?_
        refine gf_X10_16 S hiX10 hK hP hf121 dX10_told_81 ?_
        exact pt_iret S hr hlk hP hS (pt_pr h).1 (congrArg (wR ca ad) (pt_pr h).2) dX10_told_84
      · replace h := pt_iN c4 h
        by_cases c5 : a1 = (1 : Int32)
        · replace h := pt_ip c5 h
          refine lv_tableIn (off := 61) (tgt := 85) hx hb dX10_told_24 (by rw [c5]; decide) (by rw [c5]; decide) (by rw [c5]; rfl) (by decide) ?_
          refine lv_aload_n hx hb dX10_told_85 rfl (lv_at hl 0 rfl) ?_
          refine gf_X10_30 S hiX10 hK hP hf136 dX10_told_86 ?_
          exact pt_iret S hr hlk hP hS (pt_pr h).1 (congrArg (wR ca ad) (pt_pr h).2) dX10_told_89
        · replace h := pt_iN c5 h
          by_cases c6 : a1 = (2 : Int32)
          · replace h := pt_ip c6 h
            refine lv_tableIn (off := 66) (tgt := 90) hx hb dX10_told_24 (by rw [c6]; decide) (by rw [c6]; decide) (by rw [c6]; rfl) (by decide) ?_
            refine lv_aload_n hx hb dX10_told_90 rfl (lv_at hl 0 rfl) ?_
            replace h := pt_b2s h; obtain ⟨r7, σ7, e7, h⟩ := h
            refine pt_cVi (As := []) (rest := []) S (m_X10_outSize l hDa e7) (cwV 0 S.2.2.2.2 gX10_told_X10_outSize rfl rfl rfl (by decide +kernel) ⟨Nat.le_of_ble_eq_true rfl, Nat.le_of_ble_eq_true rfl⟩) hK hP hS hZ 0 10 rfl rfl rfl hl.1 rfl (Nat.le_of_ble_eq_true rfl) dX10_told_91 ⟨Nat.zero_le _, Nat.zero_le _⟩ (fun H locs hP hS => ?_)
            exact pt_iret S hr hlk hP hS (pt_pr h).1 (congrArg (wR ca ad) (pt_pr h).2) dX10_told_94
          · replace h := pt_iN c6 h
            by_cases c8 : a1 = (3 : Int32)
            · replace h := pt_ip c8 h
              refine lv_tableIn (off := 71) (tgt := 95) hx hb dX10_told_24 (by rw [c8]; decide) (by rw [c8]; decide) (by rw [c8]; rfl) (by decide) ?_
              refine lv_aload_n hx hb dX10_told_95 rfl (lv_at hl 0 rfl) ?_
              refine gf_X10_31 S hiX10 hK hP hf139 dX10_told_96 ?_
              exact pt_iret S hr hlk hP hS (pt_pr h).1 (congrArg (wR ca ad) (pt_pr h).2) dX10_told_99
            · replace h := pt_iN c8 h
              by_cases c9 : a1 = (4 : Int32)
              · replace h := pt_ip c9 h
                refine lv_tableIn (off := 76) (tgt := 100) hx hb dX10_told_24 (by rw [c9]; decide) (by rw [c9]; decide) (by rw [c9]; rfl) (by decide) ?_
                refine lv_aload_n hx hb dX10_told_100 rfl (lv_at hl 0 rfl) ?_
                refine gf_X10_33 S hiX10 hK hP hf142 dX10_told_101 ?_
                exact pt_iret S hr hlk hP hS (pt_pr h).1 (congrArg (wR ca ad) (pt_pr h).2) dX10_told_104
              · replace h := pt_iN c9 h
                by_cases c10 : a1 = (5 : Int32)
                · replace h := pt_ip c10 h
                  refine lv_tableIn (off := 81) (tgt := 105) hx hb dX10_told_24 (by rw [c10]; decide) (by rw [c10]; decide) (by rw [c10]; rfl) (by decide) ?_
                  refine lv_aload_n hx hb dX10_told_105 rfl (lv_at hl 0 rfl) ?_
                  refine gf_X10_29 S hiX10 hK hP hf133 dX10_told_106 ?_
                  exact pt_iret S hr hlk hP hS (pt_pr h).1 (congrArg (wR ca ad) (pt_pr h).2) dX10_told_109
                · replace h := pt_iN c10 h
                  by_cases c11 : a1 = (6 : Int32)
                  · replace h := pt_ip c11 h
                    refine lv_tableIn (off := 86) (tgt := 110) hx hb dX10_told_24 (by rw [c11]; decide) (by rw [c11]; decide) (by rw [c11]; rfl) (by decide) ?_
                    refine lv_aload_n hx hb dX10_told_110 rfl (lv_at hl 0 rfl) ?_
                    refine gf_X10_34 S hiX10 hK hP hf145 dX10_told_111 ?_
                    exact pt_iret S hr hlk hP hS (pt_pr h).1 (congrArg (wR ca ad) (pt_pr h).2) dX10_told_114
                  · replace h := pt_iN c11 h
                    by_cases c12 : a1 = (7 : Int32)
                    · replace h := pt_ip c12 h
                      refine lv_tableIn (off := 91) (tgt := 115) hx hb dX10_told_24 (by rw [c12]; decide) (by rw [c12]; decide) (by rw [c12]; rfl) (by decide) ?_
                      refine lv_aload_n hx hb dX10_told_115 rfl (lv_at hl 0 rfl) ?_
                      refine gf_X10_35 S hiX10 hK hP hf148 dX10_told_116 ?_
                      exact pt_iret S hr hlk hP hS (pt_pr h).1 (congrArg (wR ca ad) (pt_pr h).2) dX10_told_119
                    · replace h := pt_iN c12 h
                      by_cases c13 : a1 = (8 : Int32)
                      · replace h := pt_ip c13 h
                        refine lv_tableIn (off := 96) (tgt := 120) hx hb dX10_told_24 (by rw [c13]; decide) (by rw [c13]; decide) (by rw [c13]; rfl) (by decide) ?_
                        refine lv_aload_n hx hb dX10_told_120 rfl (lv_at hl 0 rfl) ?_
                        refine gf_X10_36 S hiX10 hK hP hf151 dX10_told_121 ?_
                        exact pt_iret S hr hlk hP hS (pt_pr h).1 (congrArg (wR ca ad) (pt_pr h).2) dX10_told_124
                      · replace h := pt_iN c13 h
                        by_cases c14 : a1 = (9 : Int32)
                        · replace h := pt_ip c14 h
                          refine lv_tableIn (off := 101) (tgt := 125) hx hb dX10_told_24 (by rw [c14]; decide) (by rw [c14]; decide) (by rw [c14]; rfl) (by decide) ?_
                          refine lv_aload_n hx hb dX10_told_125 rfl (lv_at hl 0 rfl) ?_
                          refine gf_X10_37 S hiX10 hK hP hf154 dX10_told_126 ?_
                          exact pt_iret S hr hlk hP hS (pt_pr h).1 (congrArg (wR ca ad) (pt_pr h).2) dX10_told_129
                        · replace h := pt_iN c14 h
                          refine lv_tableOut (tgt := 130) hx hb dX10_told_24 (by have q0 := lv_neT c4 (a := 0) (by decide); have q1 := lv_neT c5 (a := 1) (by decide); have q2 := lv_neT c6 (a := 2) (by decide); have q3 := lv_neT c8 (a := 3) (by decide); have q4 := lv_neT c9 (a := 4) (by decide); have q5 := lv_neT c10 (a := 5) (by decide); have q6 := lv_neT c11 (a := 6) (by decide); have q7 := lv_neT c12 (a := 7) (by decide); have q8 := lv_neT c13 (a := 8) (by decide); have q9 := lv_neT c14 (a := 9) (by decide); omega) (by decide) ?_
                          refine lv_aload_n hx hb dX10_told_130 rfl (lv_at hl 0 rfl) ?_
                          refine gf_X10_27 S hiX10 hK hP hf130 dX10_told_131 ?_
                          exact pt_iret S hr hlk hP hS (pt_pr h).1 (congrArg (wR ca ad) (pt_pr h).2) dX10_told_134
    · replace h := pt_ip c3 h
      refine lv_bipush (v := -3) hx hb dX10_told_20 (by decide) ?_
      exact pt_iret S hr hlk hP hS (pt_pr h).1 (congrArg (wR ca ad) (pt_pr h).2) dX10_told_22
  · replace h := pt_ip c2 h
    refine lv_bipush (v := -2) hx hb dX10_told_10 (by decide) ?_
    exact pt_iret S hr hlk hP hS (pt_pr h).1 (congrArg (wR ca ad) (pt_pr h).2) dX10_told_12

def f_X10_waiting (σ : pt_St) (a1 : Int32) : Option (Int32 × pt_St) :=
  if (σ 0 14) = (0 : Int32) then
  some ((-3 : Int32), σ)
  else
  pt_b2 (f_X10_in σ a1 (0 : Int32) ((σ 0 33) - (1 : Int32))) fun r2 σ2 =>
  if r2 = (0 : Int32) then
  some ((-1 : Int32), σ2)
  else
  if pt_in a1 6 then
  some ((σ2 17 a1.toNatClampNeg), σ2)
  else none
set_option maxHeartbeats 4000000 in
set_option maxRecDepth 100000 in
theorem m_X10_waiting (l : Launch) {D : va_G} {A : Nat → Prop} {ca : Nat → ClassId} {ad : Nat → Nat} {z : Nat × Nat} (hDa : ∀ σ, va_D A (wR ca ad σ)) {σ σ' : pt_St} {r : Int32} {a1 : Int32} (h : f_X10_waiting σ a1 = some (r, σ')) : Met l yX10_waiting wsX10_waiting { frames := 1, cells := 0, slots := 0, locals := 22 } (va_Pc [.ref (ad 0), .int a1] (pt_Pre D (tysR ca) z A (wR ca ad σ))) (pt_Q (some (.int r)) D (wR ca ad σ') A) 0 0 A := by
  refine Met.ofW (cc := cX10_waiting) (maxL := 2) (ret := (some .int)) (by decide) rfl ?_
  intro p e s m args below meth c s₁ B hml hv
  obtain ⟨rfl, hP, hK, hZ⟩ := hv
  have S : CallFix p m c cX10_waiting 2 s ([.ref (ad 0), .int a1] : List Value).toArray wsX10_waiting RX10 := ⟨B.exec, B.bytes, hml, findClass_of_methodNamed B.named, atoms_spec (ws := wsX10_waiting) B.pre⟩
  have hx := S.1
  have hb := S.2.1
  have hr := B.returns
  have hlk := B.notSynchronized
  clear B
  have hiX10 : ∀ w ∈ wsX100, w ∈ wsX10_waiting := fun w h => List.mem_cons_of_mem _ (List.mem_append_right _ h)
  have hf82 : (Cond.fieldLink RX10 82 "PackThreadsModel" "isBegun" "Z").before _ s = true := S.2.2.2.2 _ (List.mem_of_getElem? (i := 1) rfl)
  have hf142 : (Cond.fieldLink RX10 142 "PackThreadsModel" "lineMany" "I").before _ s = true := S.2.2.2.2 _ (List.mem_of_getElem? (i := 2) rfl)
  have hf72 : (Cond.fieldLink RX10 72 "PackThreadsModel" "line" "[I").before _ s = true := S.2.2.2.2 _ (List.mem_of_getElem? (i := 3) rfl)
  have hS : va_S A s.heap s.heap [] := va_S.rf
  have hl := lv_entry ([.ref (ad 0), .int a1]) (n := 2) (Nat.le_of_ble_eq_true rfl)
  rw [lg_entry_eq]
  generalize (lg_sl ([.ref (ad 0), .int a1]) ++ List.replicate (2 - (lg_sl ([.ref (ad 0), .int a1])).length) Slot.unset).toArray = ls at hl ⊢
  have hl : lv_has ls 2 [(0, .ref (ad 0)), (1, .int a1)] := hl
  unfold f_X10_waiting at h
  refine lv_aload_n hx hb dX10_waiting_0 rfl (lv_at hl 0 rfl) ?_
  refine gf_X10_14 S hiX10 hK hP hf82 dX10_waiting_1 ?_
  refine lv_if_ne (tgt := 12) hx hb dX10_waiting_4 (by decide) (fun c1 => ?_) (fun c1 => ?_)
  · replace h := pt_iN c1 h
    refine lv_iload_n hx hb dX10_waiting_12 rfl (lv_at hl 1 rfl) ?_
    refine lv_iconst (v := 0) hx hb dX10_waiting_13 (by decide) ?_
    refine lv_aload_n hx hb dX10_waiting_14 rfl (lv_at hl 0 rfl) ?_
    refine gf_X10_33 S hiX10 hK hP hf142 dX10_waiting_15 ?_
    refine lv_iconst (v := 1) hx hb dX10_waiting_18 (by decide) ?_
    refine lv_isub hx hb dX10_waiting_19 ?_
    replace h := pt_b2s h; obtain ⟨r2, σ2, e2, h⟩ := h
    refine pt_cSi (As := [.int a1, .int (0 : Int32), .int ((σ 0 33) - (1 : Int32))]) (rest := []) S (m_X10_in l hDa e2) (cwS 3 S.2.2.2.2 gX10_waiting_X10_in rfl rfl rfl (by decide +kernel) ⟨Nat.le_of_ble_eq_true rfl, Nat.le_of_ble_eq_true rfl⟩) hK hP hS hZ rfl hl.1 rfl (Nat.le_of_ble_eq_true rfl) dX10_waiting_20 ⟨Nat.zero_le _, Nat.zero_le _⟩ (fun H locs hP hS => ?_)
    refine lv_if_eq (tgt := 35) hx hb dX10_waiting_23 (by decide) (fun c3 => ?_) (fun c3 => ?_)
    · replace h := pt_ip c3 h
      refine lv_iconst (v := -1) hx hb dX10_waiting_35 (by decide) ?_
      exact pt_iret S hr hlk hP hS (pt_pr h).1 (congrArg (wR ca ad) (pt_pr h).2) dX10_waiting_36
    · replace h := pt_iN c3 h
      refine lv_aload_n hx hb dX10_waiting_26 rfl (lv_at hl 0 rfl) ?_
      refine gf_X10_32 S hiX10 hK hP hf72 dX10_waiting_27 ?_
      refine lv_iload_n hx hb dX10_waiting_30 rfl (lv_at hl 1 rfl) ?_
      replace h := pt_gd h; obtain ⟨g4, h⟩ := h
      refine ld_R_17 S hK hP g4 dX10_waiting_31 ?_
      refine lv_goto (tgt := 36) hx hb dX10_waiting_32 (by decide) ?_
      exact pt_iret S hr hlk hP hS (pt_pr h).1 (congrArg (wR ca ad) (pt_pr h).2) dX10_waiting_36
  · replace h := pt_ip c1 h
    refine lv_bipush (v := -3) hx hb dX10_waiting_7 (by decide) ?_
    refine lv_goto (tgt := 36) hx hb dX10_waiting_9 (by decide) ?_
    exact pt_iret S hr hlk hP hS (pt_pr h).1 (congrArg (wR ca ad) (pt_pr h).2) dX10_waiting_36

def lp_X10_close_19 (k : pt_St → Int32 → Int32 → Option (Int32 × pt_St)) : Nat → pt_St → Int32 → Int32 → Option (Int32 × pt_St)
  | 0, _, _, _ => none
  | n + 1, σ, x1, x2 =>
    if (σ 0 15) ≤ x2 then
    k σ x1 x2
    else
    if pt_in x2 6 then
    if (σ 8 x2.toNatClampNeg) = (4 : Int32) then
    lp_X10_close_19 k n σ x1 (x2 + (1 : Int32))
    else
    if (σ 8 x2.toNatClampNeg) = (2 : Int32) then
    pt_b2 (f_X10_lengthOf σ (σ 9 x2.toNatClampNeg)) fun r20005 σ20005 =>
    pt_do (pt_put σ20005 0 31 ((σ 0 31) + r20005)) fun σ20006 =>
    pt_b1 (f_X10_ends σ20006 x2) fun σ20007 =>
    lp_X10_close_19 k n σ20007 (x1 + (1 : Int32)) (x2 + (1 : Int32))
    else
    pt_do (pt_put σ 0 31 ((σ 0 31) + (0 : Int32))) fun σ20008 =>
    pt_b1 (f_X10_ends σ20008 x2) fun σ20009 =>
    lp_X10_close_19 k n σ20009 (x1 + (1 : Int32)) (x2 + (1 : Int32))
    else none
def kx_X10_close_19 (σ : pt_St) (x1 : Int32) (x2 : Int32) : Option (Int32 × pt_St) :=
  some (x1, σ)
def f_X10_close (σ : pt_St) : Option (Int32 × pt_St) :=
  if (σ 0 14) = (0 : Int32) then
  some ((-3 : Int32), σ)
  else
  pt_do (pt_put σ 0 33 (0 : Int32)) fun σ2 =>
  lp_X10_close_19 (kx_X10_close_19) pt_F σ2 (0 : Int32) (0 : Int32)
set_option maxHeartbeats 4000000 in
set_option maxRecDepth 100000 in
theorem m_X10_close (l : Launch) {D : va_G} {A : Nat → Prop} {ca : Nat → ClassId} {ad : Nat → Nat} {z : Nat × Nat} (hDa : ∀ σ, va_D A (wR ca ad σ)) {σ σ' : pt_St} {r : Int32} (h : f_X10_close σ = some (r, σ')) : Met l yX10_close wsX10_close { frames := 1, cells := 0, slots := 0, locals := 22 } (va_Pc [.ref (ad 0)] (pt_Pre D (tysR ca) z A (wR ca ad σ))) (pt_Q (some (.int r)) D (wR ca ad σ') A) 0 0 A := by
  refine Met.ofW (cc := cX10_close) (maxL := 3) (ret := (some .int)) (by decide) rfl ?_
  intro p e s m args below meth c s₁ B hml hv
  obtain ⟨rfl, hP, hK, hZ⟩ := hv
  have S : CallFix p m c cX10_close 3 s ([.ref (ad 0)] : List Value).toArray wsX10_close RX10 := ⟨B.exec, B.bytes, hml, findClass_of_methodNamed B.named, atoms_spec (ws := wsX10_close) B.pre⟩
  have hx := S.1
  have hb := S.2.1
  have hr := B.returns
  have hlk := B.notSynchronized
  clear B
  have hiX10 : ∀ w ∈ wsX100, w ∈ wsX10_close := fun w h => List.mem_cons_of_mem _ (List.mem_append_right _ h)
  have hf82 : (Cond.fieldLink RX10 82 "PackThreadsModel" "isBegun" "Z").before _ s = true := S.2.2.2.2 _ (List.mem_of_getElem? (i := 1) rfl)
  have hf142 : (Cond.fieldLink RX10 142 "PackThreadsModel" "lineMany" "I").before _ s = true := S.2.2.2.2 _ (List.mem_of_getElem? (i := 2) rfl)
  have hf118 : (Cond.fieldLink RX10 118 "PackThreadsModel" "threads" "I").before _ s = true := S.2.2.2.2 _ (List.mem_of_getElem? (i := 3) rfl)
  have hf45 : (Cond.fieldLink RX10 45 "PackThreadsModel" "state" "[I").before _ s = true := S.2.2.2.2 _ (List.mem_of_getElem? (i := 4) rfl)
  have hf139 : (Cond.fieldLink RX10 139 "PackThreadsModel" "left" "I").before _ s = true := S.2.2.2.2 _ (List.mem_of_getElem? (i := 5) rfl)
  have hf48 : (Cond.fieldLink RX10 48 "PackThreadsModel" "block" "[I").before _ s = true := S.2.2.2.2 _ (List.mem_of_getElem? (i := 6) rfl)
  have hS : va_S A s.heap s.heap [] := va_S.rf
  have hl := lv_entry ([.ref (ad 0)]) (n := 3) (Nat.le_of_ble_eq_true rfl)
  rw [lg_entry_eq]
  generalize (lg_sl ([.ref (ad 0)]) ++ List.replicate (3 - (lg_sl ([.ref (ad 0)])).length) Slot.unset).toArray = ls at hl ⊢
  have hl : lv_has ls 3 [(0, .ref (ad 0))] := hl
  unfold f_X10_close at h
  refine lv_aload_n hx hb dX10_close_0 rfl (lv_at hl 0 rfl) ?_
  refine gf_X10_14 S hiX10 hK hP hf82 dX10_close_1 ?_
  refine lv_if_ne (tgt := 10) hx hb dX10_close_4 (by decide) (fun c1 => ?_) (fun c1 => ?_)
  · replace h := pt_iN c1 h
    refine lv_iconst (v := 0) hx hb dX10_close_10 (by decide) ?_
    refine lv_istore_n (lv' := [(1, .int (0 : Int32)), (0, .ref (ad 0))]) hx hb dX10_close_11 rfl hl (by decide) rfl (fun ls hl => ?_)
    refine lv_aload_n hx hb dX10_close_12 rfl (lv_at hl 1 rfl) ?_
    refine lv_iconst (v := 0) hx hb dX10_close_13 (by decide) ?_
    replace h := pt_dos h; obtain ⟨σ2, e2, h⟩ := h
    refine pf_X10_33 S hiX10 hK hP hDa hS hf142 e2 dX10_close_14 (fun H locs hP hS => ?_)
    refine lv_iconst (v := 0) hx hb dX10_close_17 (by decide) ?_
    refine lv_istore_n (lv' := [(2, .int (0 : Int32)), (1, .int (0 : Int32)), (0, .ref (ad 0))]) hx hb dX10_close_18 rfl hl (by decide) rfl (fun ls hl => ?_)
    have X19 : ∀ (σ : pt_St) (x1 : Int32) (x2 : Int32), kx_X10_close_19 σ x1 x2 = some (r, σ') → ∀ (H : Heap) (locs : List Loc) (ls : Array Slot), va_P D vwCl (wR ca ad σ) H → va_S A s.heap H locs → lv_has ls 3 [(0, .ref (ad 0)), (1, .int x1), (2, .int x2)] → W p l e (headSpec wsX10_close { frames := 1, cells := 0, slots := 0, locals := 22 }).room s m ([.ref (ad 0)] : List Value).toArray below meth c H locs 0 0 (MQ below (pt_Q (some (.int r)) D (wR ca ad σ') A) ([.ref (ad 0)] : List Value).toArray s 0 0 A) (F0 m 84 ls []) := by
      intro σ x1 x2 h H locs ls hP hS hl
      unfold kx_X10_close_19 at h
      refine lv_iload_n hx hb dX10_close_84 rfl (lv_at hl 1 rfl) ?_
      exact pt_iret S hr hlk hP hS (pt_pr h).1 (congrArg (wR ca ad) (pt_pr h).2) dX10_close_85
    have L19 : ∀ (n : Nat) (σ : pt_St) (x1 : Int32) (x2 : Int32),  lp_X10_close_19 (kx_X10_close_19) n σ x1 x2 = some (r, σ') → ∀ (H : Heap) (locs : List Loc) (ls : Array Slot), va_P D vwCl (wR ca ad σ) H → va_S A s.heap H locs → lv_has ls 3 [(0, .ref (ad 0)), (1, .int x1), (2, .int x2)] → W p l e (headSpec wsX10_close { frames := 1, cells := 0, slots := 0, locals := 22 }).room s m ([.ref (ad 0)] : List Value).toArray below meth c H locs 0 0 (MQ below (pt_Q (some (.int r)) D (wR ca ad σ') A) ([.ref (ad 0)] : List Value).toArray s 0 0 A) (F0 m 19 ls []) := by
      intro n
      induction n with
      | zero => intro σ x1 x2 h; cases h
      | succ n ih0 =>
        intro σ x1 x2 h H locs ls hP hS hl
        rw [lp_X10_close_19] at h
        refine lv_iload_n hx hb dX10_close_19 rfl (lv_at hl 2 rfl) ?_
        refine lv_aload_n hx hb dX10_close_20 rfl (lv_at hl 0 rfl) ?_
        refine gf_X10_15 S hiX10 hK hP hf118 dX10_close_21 ?_
        refine lv_icmp_ge (tgt := 84) hx hb dX10_close_24 (by decide) (fun c20001 => ?_) (fun c20001 => ?_)
        · replace h := pt_ip c20001 h
          exact X19 _ _ _ h _ _ _ hP hS (lv_sub hl [0, 1, 2] rfl)
        · replace h := pt_iN c20001 h
          refine lv_aload_n hx hb dX10_close_27 rfl (lv_at hl 0 rfl) ?_
          refine gf_X10_17 S hiX10 hK hP hf45 dX10_close_28 ?_
          refine lv_iload_n hx hb dX10_close_31 rfl (lv_at hl 2 rfl) ?_
          replace h := pt_gd h; obtain ⟨g20002, h⟩ := h
          refine ld_R_8 S hK hP g20002 dX10_close_32 ?_
          refine lv_iconst (v := 4) hx hb dX10_close_33 (by decide) ?_
          refine lv_icmp_eq (tgt := 78) hx hb dX10_close_34 (by decide) (fun c20003 => ?_) (fun c20003 => ?_)
          · replace h := pt_ip c20003 h
            refine lv_iinc (v := x2 + (1 : Int32)) (lv' := [(2, .int (x2 + (1 : Int32))), (0, .ref (ad 0)), (1, .int x1)]) hx hb dX10_close_78 hl (k := 2) rfl rfl (by decide) rfl (fun ls hl => ?_)
            refine lv_goto (tgt := 19) hx hb dX10_close_81 (by decide) ?_
            exact ih0 _ _ _ h _ _ _ hP hS (lv_sub hl [1, 2, 0] rfl)
          · replace h := pt_iN c20003 h
            refine lv_aload_n hx hb dX10_close_37 rfl (lv_at hl 0 rfl) ?_
            refine lv_dup hx hb dX10_close_38 rfl ?_
            refine gf_X10_31 S hiX10 hK hP hf139 dX10_close_39 ?_
            refine lv_aload_n hx hb dX10_close_42 rfl (lv_at hl 0 rfl) ?_
            refine gf_X10_17 S hiX10 hK hP hf45 dX10_close_43 ?_
            refine lv_iload_n hx hb dX10_close_46 rfl (lv_at hl 2 rfl) ?_
            refine ld_R_8 S hK hP g20002 dX10_close_47 ?_
            refine lv_iconst (v := 2) hx hb dX10_close_48 (by decide) ?_
            refine lv_icmp_ne (tgt := 65) hx hb dX10_close_49 (by decide) (fun c20004 => ?_) (fun c20004 => ?_)
            · replace h := pt_iN c20004 h
              refine lv_iconst (v := 0) hx hb dX10_close_65 (by decide) ?_
              refine lv_iadd hx hb dX10_close_66 ?_
              replace h := pt_dos h; obtain ⟨σ20008, e20008, h⟩ := h
              refine pf_X10_31 S hiX10 hK hP hDa hS hf139 e20008 dX10_close_67 (fun H locs hP hS => ?_)
              refine lv_aload_n hx hb dX10_close_70 rfl (lv_at hl 0 rfl) ?_
              refine lv_iload_n hx hb dX10_close_71 rfl (lv_at hl 2 rfl) ?_
              replace h := pt_b1s h; obtain ⟨σ20009, e20009, h⟩ := h
              refine pt_cVv (As := [.int x2]) (rest := []) S (m_X10_ends l hDa e20009) (cwV 1 S.2.2.2.2 gX10_close_X10_ends rfl rfl rfl (by decide +kernel) ⟨Nat.le_of_ble_eq_true rfl, Nat.le_of_ble_eq_true rfl⟩) hK hP hS hZ 0 10 rfl rfl rfl hl.1 rfl (Nat.le_of_ble_eq_true rfl) dX10_close_72 ⟨Nat.zero_le _, Nat.zero_le _⟩ (fun H locs hP hS => ?_)
              refine lv_iinc (v := x1 + (1 : Int32)) (lv' := [(1, .int (x1 + (1 : Int32))), (0, .ref (ad 0)), (2, .int x2)]) hx hb dX10_close_75 hl (k := 1) rfl rfl (by decide) rfl (fun ls hl => ?_)
              refine lv_iinc (v := x2 + (1 : Int32)) (lv' := [(2, .int (x2 + (1 : Int32))), (1, .int (x1 + (1 : Int32))), (0, .ref (ad 0))]) hx hb dX10_close_78 hl (k := 2) rfl rfl (by decide) rfl (fun ls hl => ?_)
              refine lv_goto (tgt := 19) hx hb dX10_close_81 (by decide) ?_
              exact ih0 _ _ _ h _ _ _ hP hS (lv_sub hl [2, 1, 0] rfl)
            · replace h := pt_ip c20004 h
              refine lv_aload_n hx hb dX10_close_52 rfl (lv_at hl 0 rfl) ?_
              refine lv_aload_n hx hb dX10_close_53 rfl (lv_at hl 0 rfl) ?_
              refine gf_X10_18 S hiX10 hK hP hf48 dX10_close_54 ?_
              refine lv_iload_n hx hb dX10_close_57 rfl (lv_at hl 2 rfl) ?_
              refine ld_R_9 S hK hP g20002 dX10_close_58 ?_
              replace h := pt_b2s h; obtain ⟨r20005, σ20005, e20005, h⟩ := h
              refine pt_cVi (As := [.int (σ 9 x2.toNatClampNeg)]) (rest := [.int (σ 0 31), .ref (ad 0)]) S (m_X10_lengthOf l hDa e20005) (cwV 1 S.2.2.2.2 gX10_close_X10_lengthOf rfl rfl rfl (by decide +kernel) ⟨Nat.le_of_ble_eq_true rfl, Nat.le_of_ble_eq_true rfl⟩) hK hP hS hZ 0 10 rfl rfl rfl hl.1 rfl (Nat.le_of_ble_eq_true rfl) dX10_close_59 ⟨Nat.zero_le _, Nat.zero_le _⟩ (fun H locs hP hS => ?_)
              refine lv_goto (tgt := 66) hx hb dX10_close_62 (by decide) ?_
              refine lv_iadd hx hb dX10_close_66 ?_
              replace h := pt_dos h; obtain ⟨σ20006, e20006, h⟩ := h
              refine pf_X10_31 S hiX10 hK hP hDa hS hf139 e20006 dX10_close_67 (fun H locs hP hS => ?_)
              refine lv_aload_n hx hb dX10_close_70 rfl (lv_at hl 0 rfl) ?_
              refine lv_iload_n hx hb dX10_close_71 rfl (lv_at hl 2 rfl) ?_
              replace h := pt_b1s h; obtain ⟨σ20007, e20007, h⟩ := h
              refine pt_cVv (As := [.int x2]) (rest := []) S (m_X10_ends l hDa e20007) (cwV 1 S.2.2.2.2 gX10_close_X10_ends rfl rfl rfl (by decide +kernel) ⟨Nat.le_of_ble_eq_true rfl, Nat.le_of_ble_eq_true rfl⟩) hK hP hS hZ 0 10 rfl rfl rfl hl.1 rfl (Nat.le_of_ble_eq_true rfl) dX10_close_72 ⟨Nat.zero_le _, Nat.zero_le _⟩ (fun H locs hP hS => ?_)
              refine lv_iinc (v := x1 + (1 : Int32)) (lv' := [(1, .int (x1 + (1 : Int32))), (0, .ref (ad 0)), (2, .int x2)]) hx hb dX10_close_75 hl (k := 1) rfl rfl (by decide) rfl (fun ls hl => ?_)
              refine lv_iinc (v := x2 + (1 : Int32)) (lv' := [(2, .int (x2 + (1 : Int32))), (1, .int (x1 + (1 : Int32))), (0, .ref (ad 0))]) hx hb dX10_close_78 hl (k := 2) rfl rfl (by decide) rfl (fun ls hl => ?_)
              refine lv_goto (tgt := 19) hx hb dX10_close_81 (by decide) ?_
              exact ih0 _ _ _ h _ _ _ hP hS (lv_sub hl [2, 1, 0] rfl)
    exact L19 _ _ _ _ h _ _ _ hP hS (lv_sub hl [2, 1, 0] rfl)
  · replace h := pt_ip c1 h
    refine lv_bipush (v := -3) hx hb dX10_close_7 (by decide) ?_
    exact pt_iret S hr hlk hP hS (pt_pr h).1 (congrArg (wR ca ad) (pt_pr h).2) dX10_close_9

def lp_X10_clear_22 (k : pt_St → Int32 → Int32 → Option (Int32 × pt_St)) : Nat → pt_St → Int32 → Int32 → Option (Int32 × pt_St)
  | 0, _, _, _ => none
  | n + 1, σ, x1, x2 =>
    if (40 : Int32) ≤ x2 then
    k σ x1 x2
    else
    if pt_in x2 40 then
    pt_do (pt_put σ 2 x2.toNatClampNeg (0 : Int32)) fun σ23003 =>
    lp_X10_clear_22 k n σ23003 x1 (x2 + (1 : Int32))
    else none
def kx_X10_clear_22 (σ : pt_St) (x1 : Int32) (x2 : Int32) : Option (Int32 × pt_St) :=
  some (x1, σ)
def f_X10_clear (σ : pt_St) : Option (Int32 × pt_St) :=
  pt_do (pt_put σ 0 1 (0 : Int32)) fun σ1 =>
  pt_do (pt_put σ1 0 14 (0 : Int32)) fun σ2 =>
  pt_do (pt_put σ2 0 9 (0 : Int32)) fun σ3 =>
  lp_X10_clear_22 (kx_X10_clear_22) pt_F σ3 (σ 0 1) (0 : Int32)
set_option maxHeartbeats 4000000 in
set_option maxRecDepth 100000 in
theorem m_X10_clear (l : Launch) {D : va_G} {A : Nat → Prop} {ca : Nat → ClassId} {ad : Nat → Nat} {z : Nat × Nat} (hDa : ∀ σ, va_D A (wR ca ad σ)) {σ σ' : pt_St} {r : Int32} (h : f_X10_clear σ = some (r, σ')) : Met l yX10_clear wsX10_clear { frames := 0, cells := 0, slots := 0, locals := 0 } (va_Pc [.ref (ad 0)] (pt_Pre D (tysR ca) z A (wR ca ad σ))) (pt_Q (some (.int r)) D (wR ca ad σ') A) 0 0 A := by
  refine Met.ofW (cc := cX10_clear) (maxL := 3) (ret := (some .int)) (by decide) rfl ?_
  intro p e s m args below meth c s₁ B hml hv
  obtain ⟨rfl, hP, hK, hZ⟩ := hv
  have S : CallFix p m c cX10_clear 3 s ([.ref (ad 0)] : List Value).toArray wsX10_clear RX10 := ⟨B.exec, B.bytes, hml, findClass_of_methodNamed B.named, atoms_spec (ws := wsX10_clear) B.pre⟩
  have hx := S.1
  have hb := S.2.1
  have hr := B.returns
  have hlk := B.notSynchronized
  clear B
  have hiX10 : ∀ w ∈ wsX100, w ∈ wsX10_clear := fun w h => List.mem_cons_of_mem _ (List.mem_append_right _ h)
  have hf75 : (Cond.fieldLink RX10 75 "PackThreadsModel" "size" "I").before _ s = true := S.2.2.2.2 _ (List.mem_of_getElem? (i := 1) rfl)
  have hf82 : (Cond.fieldLink RX10 82 "PackThreadsModel" "isBegun" "Z").before _ s = true := S.2.2.2.2 _ (List.mem_of_getElem? (i := 2) rfl)
  have hf86 : (Cond.fieldLink RX10 86 "PackThreadsModel" "isPacked" "Z").before _ s = true := S.2.2.2.2 _ (List.mem_of_getElem? (i := 3) rfl)
  have hf26 : (Cond.fieldLink RX10 26 "PackThreadsModel" "plantKind" "[I").before _ s = true := S.2.2.2.2 _ (List.mem_of_getElem? (i := 4) rfl)
  have hS : va_S A s.heap s.heap [] := va_S.rf
  have hl := lv_entry ([.ref (ad 0)]) (n := 3) (Nat.le_of_ble_eq_true rfl)
  rw [lg_entry_eq]
  generalize (lg_sl ([.ref (ad 0)]) ++ List.replicate (3 - (lg_sl ([.ref (ad 0)])).length) Slot.unset).toArray = ls at hl ⊢
  have hl : lv_has ls 3 [(0, .ref (ad 0))] := hl
  unfold f_X10_clear at h
  refine lv_aload_n hx hb dX10_clear_0 rfl (lv_at hl 0 rfl) ?_
  refine gf_X10_1 S hiX10 hK hP hf75 dX10_clear_1 ?_
  refine lv_istore_n (lv' := [(1, .int (σ 0 1)), (0, .ref (ad 0))]) hx hb dX10_clear_4 rfl hl (by decide) rfl (fun ls hl => ?_)
  refine lv_aload_n hx hb dX10_clear_5 rfl (lv_at hl 1 rfl) ?_
  refine lv_iconst (v := 0) hx hb dX10_clear_6 (by decide) ?_
  replace h := pt_dos h; obtain ⟨σ1, e1, h⟩ := h
  refine pf_X10_1 S hiX10 hK hP hDa hS hf75 e1 dX10_clear_7 (fun H locs hP hS => ?_)
  refine lv_aload_n hx hb dX10_clear_10 rfl (lv_at hl 1 rfl) ?_
  refine lv_iconst (v := 0) hx hb dX10_clear_11 (by decide) ?_
  replace h := pt_dos h; obtain ⟨σ2, e2, h⟩ := h
  refine pf_X10_14 S hiX10 hK hP hDa hS hf82 (Or.inl rfl) e2 dX10_clear_12 (fun H locs hP hS => ?_)
  refine lv_aload_n hx hb dX10_clear_15 rfl (lv_at hl 1 rfl) ?_
  refine lv_iconst (v := 0) hx hb dX10_clear_16 (by decide) ?_
  replace h := pt_dos h; obtain ⟨σ3, e3, h⟩ := h
  refine pf_X10_9 S hiX10 hK hP hDa hS hf86 (Or.inl rfl) e3 dX10_clear_17 (fun H locs hP hS => ?_)
  refine lv_iconst (v := 0) hx hb dX10_clear_20 (by decide) ?_
  refine lv_istore_n (lv' := [(2, .int (0 : Int32)), (1, .int (σ 0 1)), (0, .ref (ad 0))]) hx hb dX10_clear_21 rfl hl (by decide) rfl (fun ls hl => ?_)
  have X22 : ∀ (σ : pt_St) (x1 : Int32) (x2 : Int32), kx_X10_clear_22 σ x1 x2 = some (r, σ') → ∀ (H : Heap) (locs : List Loc) (ls : Array Slot), va_P D vwCl (wR ca ad σ) H → va_S A s.heap H locs → lv_has ls 3 [(0, .ref (ad 0)), (1, .int x1), (2, .int x2)] → W p l e (headSpec wsX10_clear { frames := 0, cells := 0, slots := 0, locals := 0 }).room s m ([.ref (ad 0)] : List Value).toArray below meth c H locs 0 0 (MQ below (pt_Q (some (.int r)) D (wR ca ad σ') A) ([.ref (ad 0)] : List Value).toArray s 0 0 A) (F0 m 41 ls []) := by
    intro σ x1 x2 h H locs ls hP hS hl
    unfold kx_X10_clear_22 at h
    refine lv_iload_n hx hb dX10_clear_41 rfl (lv_at hl 1 rfl) ?_
    exact pt_iret S hr hlk hP hS (pt_pr h).1 (congrArg (wR ca ad) (pt_pr h).2) dX10_clear_42
  have L22 : ∀ (n : Nat) (σ : pt_St) (x1 : Int32) (x2 : Int32),  lp_X10_clear_22 (kx_X10_clear_22) n σ x1 x2 = some (r, σ') → ∀ (H : Heap) (locs : List Loc) (ls : Array Slot), va_P D vwCl (wR ca ad σ) H → va_S A s.heap H locs → lv_has ls 3 [(0, .ref (ad 0)), (1, .int x1), (2, .int x2)] → W p l e (headSpec wsX10_clear { frames := 0, cells := 0, slots := 0, locals := 0 }).room s m ([.ref (ad 0)] : List Value).toArray below meth c H locs 0 0 (MQ below (pt_Q (some (.int r)) D (wR ca ad σ') A) ([.ref (ad 0)] : List Value).toArray s 0 0 A) (F0 m 22 ls []) := by
    intro n
    induction n with
    | zero => intro σ x1 x2 h; cases h
    | succ n ih0 =>
      intro σ x1 x2 h H locs ls hP hS hl
      rw [lp_X10_clear_22] at h
      refine lv_iload_n hx hb dX10_clear_22 rfl (lv_at hl 2 rfl) ?_
      refine lv_bipush (v := 40) hx hb dX10_clear_23 (by decide) ?_
      refine lv_icmp_ge (tgt := 41) hx hb dX10_clear_25 (by decide) (fun c23001 => ?_) (fun c23001 => ?_)
      · replace h := pt_ip c23001 h
        exact X22 _ _ _ h _ _ _ hP hS (lv_sub hl [0, 1, 2] rfl)
      · replace h := pt_iN c23001 h
        refine lv_aload_n hx hb dX10_clear_28 rfl (lv_at hl 0 rfl) ?_
        refine gf_X10_6 S hiX10 hK hP hf26 dX10_clear_29 ?_
        refine lv_iload_n hx hb dX10_clear_32 rfl (lv_at hl 2 rfl) ?_
        refine lv_iconst (v := 0) hx hb dX10_clear_33 (by decide) ?_
        replace h := pt_gd h; obtain ⟨g23002, h⟩ := h
        replace h := pt_dos h; obtain ⟨σ23003, e23003, h⟩ := h
        refine st_R_2 S hK hP hDa hS g23002 e23003 dX10_clear_34 (fun H locs hP hS => ?_)
        refine lv_iinc (v := x2 + (1 : Int32)) (lv' := [(2, .int (x2 + (1 : Int32))), (0, .ref (ad 0)), (1, .int x1)]) hx hb dX10_clear_35 hl (k := 2) rfl rfl (by decide) rfl (fun ls hl => ?_)
        refine lv_goto (tgt := 22) hx hb dX10_clear_38 (by decide) ?_
        exact ih0 _ _ _ h _ _ _ hP hS (lv_sub hl [1, 2, 0] rfl)
  exact L22 _ _ _ _ h _ _ _ hP hS (lv_sub hl [2, 1, 0] rfl)
