/-! ===== a state of numbers: cell k, place j ===== -/
abbrev pt_St : Type := Nat → Nat → Int32
def pt_put (σ : pt_St) (k j : Nat) (v : Int32) : pt_St := fun k' => if k' = k then upd (σ k) j v else σ k'
abbrev pt_in (i : Int32) (n : Nat) : Prop := ¬ (i < 0 ∨ n ≤ i.toNatClampNeg)
/-- a name for what is made -/
def pt_do {α β : Type} (a : α) (f : α → β) : β := f a
theorem pt_dos {α β : Type} {a : α} {f : α → β} {b : β} (h : pt_do a f = b) : ∃ z, z = a ∧ f z = b := ⟨a, rfl, h⟩
theorem pt_ip {c : Prop} [Decidable c] {α : Type} {a b x : α} (hc : c) (h : (if c then a else b) = x) : a = x := by rw [if_pos hc] at h; exact h
theorem pt_iN {c : Prop} [Decidable c] {α : Type} {a b x : α} (hc : ¬ c) (h : (if c then a else b) = x) : b = x := by rw [if_neg hc] at h; exact h
theorem pt_gd {c : Prop} [Decidable c] {α : Type} {a : Option α} {x : α} (h : (if c then a else none) = some x) : c ∧ a = some x := by
  by_cases hc : c
  · rw [if_pos hc] at h; exact ⟨hc, h⟩
  · rw [if_neg hc] at h; cases h
theorem pt_bd {α β : Type} {o : Option α} {f : α → Option β} {b : β} (h : o.bind f = some b) : ∃ a, o = some a ∧ f a = some b := by
  cases o with
  | none => cases h
  | some a => exact ⟨a, rfl, h⟩
theorem pt_pr {α β : Type} {a c : α} {b d : β} (h : some (a, b) = some (c, d)) : c = a ∧ d = b := by cases h; exact ⟨rfl, rfl⟩
theorem pt_so {α : Type} {a c : α} (h : some a = some c) : c = a := by cases h; rfl
theorem pt_in_lt {i : Int32} {n : Nat} (h : pt_in i n) : i.toNatClampNeg < n := Nat.not_le.mp fun q => h (Or.inr q)
/-- how far a loop is followed -/
def pt_F : Nat := 1000
/-- a worker's number, as it stands in the line -/
abbrev pt_iw (x : Int32) : Prop := ¬ (x < 0 ∨ 6 ≤ x.toNatClampNeg)
def pt_ln (ad : Nat → Nat) (x : Int32) : Option Nat := if pt_iw x then some (ad (9 + x.toNatClampNeg)) else none
/-! ===== the words of nest mates ===== -/
def pt_nf : List (String × Nat × String × String × String × String) := [(RX6, 194, "PackThreads$Memory", "inLine", "I", "PackThreads"), (RX6, 210, "PackThreads$Memory", "left", "I", "PackThreads"), (RX6, 213, "PackThreads$Row", "packs", "I", "PackThreads"), (RX6, 112, "PackThreads$Row", "joined", "I", "PackThreads"), (RX6, 127, "PackThreads$Failed", "inLine", "I", "PackThreads"), (RX1, 36, "PackThreads$Worker", "number", "I", "PackThreads"), (RX6, 92, "PackThreads$Worker", "state", "I", "PackThreads"), (RX6, 152, "PackThreads$Worker", "block", "I", "PackThreads"), (RX6, 155, "PackThreads$Worker", "step", "I", "PackThreads"), (RX1, 24, "PackThreads$Worker", "cells", "I", "PackThreads"), (RX6, 173, "PackThreads$Worker", "cells", "I", "PackThreads"), (RX6, 201, "PackThreads$Worker", "made", "I", "PackThreads"), (RX6, 204, "PackThreads$Worker", "timesEnded", "I", "PackThreads"), (RX6, 105, "PackThreads$Worker", "interrupted", "Z", "PackThreads")]
abbrev pt_nw (U : State) : Prop := ∀ q ∈ pt_nf, va_Nw (.fieldLinkNest q.1 q.2.1 q.2.2.1 q.2.2.2.1 q.2.2.2.2.1 q.2.2.2.2.2) U
abbrev pt_KK (D : va_G) (tys : List (ClassId × FieldType)) (U : State) : Prop := va_K D vwCl tys U ∧ pt_nw U
theorem pt_KK.moved {D : va_G} {tys : List (ClassId × FieldType)} {s U : State} (hW : s.WarmedH U.vm) (h : pt_KK D tys s) : pt_KK D tys U := ⟨va_K.moved hW.alike h.1, fun q hq => (h.2 q hq).warmF hW⟩
theorem pt_KK.same {D : va_G} {tys : List (ClassId × FieldType)} {u U : State} (hv : u.vm = U.vm) (h : pt_KK D tys u) : pt_KK D tys U := ⟨va_K.moved (by rw [hv]; exact Vm.Alike.refl _) h.1, fun q hq => (h.2 q hq).same rfl hv⟩
/-! ===== the two static tables ===== -/
def pt_lo (j : Nat) : Int32 := match j with
  | 0 => 4
  | 1 => 0
  | 2 => 32
  | _ => 1
def pt_hi (j : Nat) : Int32 := match j with
  | 0 => 32
  | 1 => 64
  | 2 => 200
  | _ => 8
def pt_Zs (z : Nat × Nat) (A : Nat → Prop) (U : State) (H : Heap) : Prop := va_Z "PackThreads$Settings" "LEAST" "[I" (.ref z.1) A U H ∧ va_T .int z.1 4 (fun j => .int (pt_lo j)) A U H ∧ va_Z "PackThreads$Settings" "MOST" "[I" (.ref z.2) A U H ∧ va_T .int z.2 4 (fun j => .int (pt_hi j)) A U H
theorem pt_Zs.moved {z : Nat × Nat} {A : Nat → Prop} {u U : State} {H : Heap} (hvm : u.vm.Alike U.vm) (h : pt_Zs z A u H) : pt_Zs z A U H := ⟨h.1.moved hvm, h.2.1.moved hvm, h.2.2.1.moved hvm, h.2.2.2.moved hvm⟩
theorem pt_Zs.kept {z : Nat × Nat} {A : Nat → Prop} {U : State} {H H1 : Heap} (h : pt_Zs z A U H) (hq : ∀ a : Nat, a < H.size → ¬ A a → H1[a]? = H[a]?) : pt_Zs z A U H1 := ⟨h.1.kept hq, h.2.1.kept hq, h.2.2.1.kept hq, h.2.2.2.kept hq⟩
theorem pt_Zs.narrow {z : Nat × Nat} {A B : Nat → Prop} {U : State} {H : Heap} (h : pt_Zs z A U H) (hAB : ∀ q, B q → A q) : pt_Zs z B U H := ⟨h.1.narrow hAB, h.2.1.narrow hAB, h.2.2.1.narrow hAB, h.2.2.2.narrow hAB⟩
/-! ===== a method's start and end ===== -/
def pt_Pre (D : va_G) (tys : List (ClassId × FieldType)) (z : Nat × Nat) (A : Nat → Prop) (w : va_W) (U : State) : Prop := va_P D vwCl w U.heap ∧ pt_KK D tys U ∧ pt_Zs z A U U.heap
def pt_Q (v0 : Option Value) (D : va_G) (w : va_W) (A : Nat → Prop) : Array Value → State → Outcome → State → Prop := fun _ st oc t => oc = .returned v0 ∧ va_P D vwCl w t.heap ∧ va_F A st t
theorem pt_blind {av : List Value} {D : va_G} {tys : List (ClassId × FieldType)} {z : Nat × Nat} {A : Nat → Prop} {w : va_W} : FrameBlind (va_Pc av (pt_Pre D tys z A w)) := fun a U g mk q => ⟨q.1, q.2.1, pt_KK.same (u := U) (U := U.calling g mk a) rfl q.2.2.1, pt_Zs.moved (u := U) (U := U.calling g mk a) (Vm.Alike.refl U.vm) q.2.2.2⟩
section PT
variable {p : Program} {l : Launch} {e : Env} {R : Room} {s : State} {m : MethodId} {args : Array Value} {below : List Frame} {meth : Method} {c : Code} {H : Heap} {locs : List Loc} {cells slots : Nat} {Q : State → Prop}
variable {cc : ByteArray} {pc : Nat} {ls : Array Slot} {rest : List Value} {D : va_G} {A : Nat → Prop} {a : Nat} {tys : List (ClassId × FieldType)} {H0 : Heap} {w w' : va_W} {own : String} {Ts : List Cond} {nL : Nat}
/-- a field is read -/
theorem pt_g {C : String} {T : u_T} {N ci index : Nat} (S : CallFix p m c cc nL s args Ts own) (hin : ∀ w ∈ u_ws C T N, w ∈ Ts) (hK : pt_KK D tys s) (hP : va_P D vwCl w H) (q0 : Nat) {fs : List Value} (he : w[q0]? = some (a, .inr (ci, fs))) (hc : vwCl[ci]? = some (C, T, N)) (k : Nat) (hk : k < N) (hlink : (Cond.fieldLink own index (T k).1 (T k).2.1 (T k).2.2.1).before args s = true) {v : Value} (hv : fs[k]? = some v) (hdg : decode cc pc = .ok (.getfield index, 3))
    (kk : W p l e R s m args below meth c H locs cells slots Q (F0 m (pc + 3) ls (v :: rest))) : W p l e R s m args below meth c H locs cells slots Q (F0 m pc ls (.ref a :: rest)) :=
  va_get S.1 S.2.1 S.2.2.2.2 hin S.2.2.2.1 hK.1 hP q0 he hc k hk hlink (fun _ h => h) hv hdg kk
theorem pt_gN {C host : String} {T : u_T} {N ci index : Nat} (S : CallFix p m c cc nL s args Ts own) (hin : ∀ w ∈ u_ws C T N, w ∈ Ts) (hK : pt_KK D tys s) (hP : va_P D vwCl w H) (q0 : Nat) {fs : List Value} (he : w[q0]? = some (a, .inr (ci, fs))) (hc : vwCl[ci]? = some (C, T, N)) (k : Nat) (hk : k < N) (hlink : (own, index, (T k).1, (T k).2.1, (T k).2.2.1, host) ∈ pt_nf) {v : Value} (hv : fs[k]? = some v) (hdg : decode cc pc = .ok (.getfield index, 3))
    (kk : W p l e R s m args below meth c H locs cells slots Q (F0 m (pc + 3) ls (v :: rest))) : W p l e R s m args below meth c H locs cells slots Q (F0 m pc ls (.ref a :: rest)) :=
  va_getN (host := host) S.1 S.2.1 S.2.2.2.2 hin S.2.2.2.1 hK.1 hP q0 he hc k hk (va_Nw.use rfl (hK.2 _ hlink)) (fun _ h => h) hv hdg kk
/-- a field is written -/
theorem pt_p {C : String} {T : u_T} {N ci index : Nat} (S : CallFix p m c cc nL s args Ts own) (hin : ∀ w ∈ u_ws C T N, w ∈ Ts) {ty0 : Nat → FieldType} (hty : ∀ k, k < N → parseFieldDescriptor (T k).2.2.1 = some (ty0 k)) (hnm : ∀ a, a < N → ∀ b, b < N → a ≠ b → (T a).2.1 ≠ (T b).2.1) (hK : pt_KK D tys s) (hP : va_P D vwCl w H) (hD : va_D A w) (hS : va_S A H0 H locs) (q0 : Nat) {fs : List Value} (he : w[q0]? = some (a, .inr (ci, fs))) (hc : vwCl[ci]? = some (C, T, N)) (k : Nat) (hk : k < N) (hlink : (Cond.fieldLink own index (T k).1 (T k).2.1 (T k).2.2.1).before args s = true) (hfin : (T k).2.2.2 = false) {v : Value} (hn : narrow (ty0 k) v = v) (hfit : fits (ty0 k) v = true) (hl : k < fs.length) (hset : w.set q0 (a, .inr (ci, fs.set k v)) = w') (hdg : decode cc pc = .ok (.putfield index, 3))
    (kk : ∀ (H1 : Heap) (locs1 : List Loc), va_P D vwCl w' H1 → va_S A H0 H1 locs1 → W p l e R s m args below meth c H1 locs1 cells slots Q (F0 m (pc + 3) ls rest)) : W p l e R s m args below meth c H locs cells slots Q (F0 m pc ls (v :: .ref a :: rest)) :=
  va_put S.1 S.2.1 S.2.2.2.2 hin ty0 hty hnm S.2.2.2.1 hK.1 hP hD hS q0 he hc k hk hlink (fun _ h => h) hfin (hty k hk) hn hfit hl hdg (fun H1 locs1 hP1 _ hS1 => kk H1 locs1 (by rw [← hset]; exact hP1) hS1)
theorem pt_pN {C host : String} {T : u_T} {N ci index : Nat} (S : CallFix p m c cc nL s args Ts own) (hin : ∀ w ∈ u_ws C T N, w ∈ Ts) {ty0 : Nat → FieldType} (hty : ∀ k, k < N → parseFieldDescriptor (T k).2.2.1 = some (ty0 k)) (hnm : ∀ a, a < N → ∀ b, b < N → a ≠ b → (T a).2.1 ≠ (T b).2.1) (hK : pt_KK D tys s) (hP : va_P D vwCl w H) (hD : va_D A w) (hS : va_S A H0 H locs) (q0 : Nat) {fs : List Value} (he : w[q0]? = some (a, .inr (ci, fs))) (hc : vwCl[ci]? = some (C, T, N)) (k : Nat) (hk : k < N) (hlink : (own, index, (T k).1, (T k).2.1, (T k).2.2.1, host) ∈ pt_nf) (hfin : (T k).2.2.2 = false) {v : Value} (hn : narrow (ty0 k) v = v) (hfit : fits (ty0 k) v = true) (hl : k < fs.length) (hset : w.set q0 (a, .inr (ci, fs.set k v)) = w') (hdg : decode cc pc = .ok (.putfield index, 3))
    (kk : ∀ (H1 : Heap) (locs1 : List Loc), va_P D vwCl w' H1 → va_S A H0 H1 locs1 → W p l e R s m args below meth c H1 locs1 cells slots Q (F0 m (pc + 3) ls rest)) : W p l e R s m args below meth c H locs cells slots Q (F0 m pc ls (v :: .ref a :: rest)) :=
  va_putN (host := host) S.1 S.2.1 S.2.2.2.2 hin ty0 hty hnm S.2.2.2.1 hK.1 hP hD hS q0 he hc k hk (va_Nw.use rfl (hK.2 _ hlink)) (fun _ h => h) hfin (hty k hk) hn hfit hl hdg (fun H1 locs1 hP1 _ hS1 => kk H1 locs1 (by rw [← hset]; exact hP1) hS1)
/-- rows of numbers -/
theorem pt_ild (S : CallFix p m c cc nL s args Ts own) (hK : pt_KK D tys s) (hP : va_P D vwCl w H) (q0 t0 : Nat) {cA : ClassId} {n : Nat} {f : Nat → Int32} (ha : w[q0]? = some (a, .inl (cA, n, .inl f))) (ht : tys[t0]? = some (cA, .int)) {i : Int32} (hin : pt_in i n) (hdg : decode cc pc = .ok (.iaload, 1))
    (kk : W p l e R s m args below meth c H locs cells slots Q (F0 m (pc + 1) ls (.int (f i.toNatClampNeg) :: rest))) : W p l e R s m args below meth c H locs cells slots Q (F0 m pc ls (.int i :: .ref a :: rest)) :=
  va_iald S.1 S.2.1 hK.1 hP q0 t0 ha ht hin hdg kk
theorem pt_zld (S : CallFix p m c cc nL s args Ts own) (hK : pt_KK D tys s) (hP : va_P D vwCl w H) (q0 t0 : Nat) {cA : ClassId} {n : Nat} {f : Nat → Int32} (ha : w[q0]? = some (a, .inl (cA, n, .inl f))) (ht : tys[t0]? = some (cA, .boolean)) {i : Int32} (hin : pt_in i n) (hdg : decode cc pc = .ok (.baload, 1))
    (kk : W p l e R s m args below meth c H locs cells slots Q (F0 m (pc + 1) ls (.int (f i.toNatClampNeg) :: rest))) : W p l e R s m args below meth c H locs cells slots Q (F0 m pc ls (.int i :: .ref a :: rest)) :=
  va_zald S.1 S.2.1 hK.1 hP q0 t0 ha ht hin hdg kk
theorem pt_ist (S : CallFix p m c cc nL s args Ts own) (hK : pt_KK D tys s) (hP : va_P D vwCl w H) (hD : va_D A w) (hS : va_S A H0 H locs) (q0 t0 : Nat) {cA : ClassId} {n : Nat} {f : Nat → Int32} (ha : w[q0]? = some (a, .inl (cA, n, .inl f))) (ht : tys[t0]? = some (cA, .int)) {i x : Int32} (hin : pt_in i n) (hset : w.set q0 (a, .inl (cA, n, .inl (upd f i.toNatClampNeg x))) = w') (hdg : decode cc pc = .ok (.iastore, 1))
    (kk : ∀ (H1 : Heap) (locs1 : List Loc), va_P D vwCl w' H1 → va_S A H0 H1 locs1 → W p l e R s m args below meth c H1 locs1 cells slots Q (F0 m (pc + 1) ls rest)) : W p l e R s m args below meth c H locs cells slots Q (F0 m pc ls (.int x :: .int i :: .ref a :: rest)) :=
  va_iast S.1 S.2.1 hK.1 hP hD hS q0 t0 ha ht hin hdg (fun H1 locs1 hP1 _ hS1 => kk H1 locs1 (by rw [← hset]; exact hP1) hS1)
theorem pt_zst (S : CallFix p m c cc nL s args Ts own) (hK : pt_KK D tys s) (hP : va_P D vwCl w H) (hD : va_D A w) (hS : va_S A H0 H locs) (q0 t0 : Nat) {cA : ClassId} {n : Nat} {f : Nat → Int32} (ha : w[q0]? = some (a, .inl (cA, n, .inl f))) (ht : tys[t0]? = some (cA, .boolean)) {i x : Int32} (hin : pt_in i n) (hset : w.set q0 (a, .inl (cA, n, .inl (upd f i.toNatClampNeg (vp_nar .boolean x)))) = w') (hdg : decode cc pc = .ok (.bastore, 1))
    (kk : ∀ (H1 : Heap) (locs1 : List Loc), va_P D vwCl w' H1 → va_S A H0 H1 locs1 → W p l e R s m args below meth c H1 locs1 cells slots Q (F0 m (pc + 1) ls rest)) : W p l e R s m args below meth c H locs cells slots Q (F0 m pc ls (.int x :: .int i :: .ref a :: rest)) :=
  va_zast S.1 S.2.1 hK.1 hP hD hS q0 t0 ha ht hin hdg (fun H1 locs1 hP1 _ hS1 => kk H1 locs1 (by rw [← hset]; exact hP1) hS1)
theorem pt_len (S : CallFix p m c cc nL s args Ts own) (hK : pt_KK D tys s) (hP : va_P D vwCl w H) (q0 t0 : Nat) {cA : ClassId} {x : vp_A} (ha : w[q0]? = some (a, .inl (cA, x))) {ty : FieldType} (ht : tys[t0]? = some (cA, ty)) {v : Int32} (hv : Int32.ofNat x.1 = v) (hdg : decode cc pc = .ok (.arraylength, 1))
    (kk : W p l e R s m args below meth c H locs cells slots Q (F0 m (pc + 1) ls (.int v :: rest))) : W p l e R s m args below meth c H locs cells slots Q (F0 m pc ls (.ref a :: rest)) :=
  va_alen S.1 S.2.1 hK.1 hP q0 t0 ha ht hv hdg kk
theorem pt_ald (S : CallFix p m c cc nL s args Ts own) (hK : pt_KK D tys s) (hP : va_P D vwCl w H) (q0 t0 : Nat) {cA : ClassId} {C : String} {n : Nat} {f : Nat → Option Nat} (ha : w[q0]? = some (a, .inl (cA, n, .inr (.inr (.inr (.inr f)))))) (ht : tys[t0]? = some (cA, .object C)) {i : Int32} (hin : pt_in i n) {v : Value} (hv : va_rf (f i.toNatClampNeg) = v) (hdg : decode cc pc = .ok (.aaload, 1))
    (kk : W p l e R s m args below meth c H locs cells slots Q (F0 m (pc + 1) ls (v :: rest))) : W p l e R s m args below meth c H locs cells slots Q (F0 m pc ls (.int i :: .ref a :: rest)) := by
  subst hv
  exact va_aldq S.1 S.2.1 hK.1 hP q0 t0 ha ht hin hdg kk
/-- a call behind its run -/
theorem pt_run {v0 : Option Value} {A0 : Nat → Prop} {a0 : Array Value} {st0 : List Value} (hr : va_Run p l e R s m args below meth c H locs cells slots 0 0 (F0 m pc ls st0) rest (pt_Q v0 D w' A a0) A) (hS : va_S A0 H0 H locs) (hA : ∀ q, A q → A0 q)
    (kk : ∀ (H1 : Heap) (locs1 : List Loc), va_P D vwCl w' H1 → va_S A0 H0 H1 locs1 → H.size ≤ H1.size → (∀ q : Nat, q < H.size → ¬ A q → H1[q]? = H[q]?) → W p l e R s m args below meth c H1 locs1 cells slots Q (F0 m (pc + 3) ls (v0.toList ++ rest))) : W p l e R s m args below meth c H locs cells slots Q (F0 m pc ls st0) := by
  intro T hT X
  obtain ⟨v, st₀, t, T', L, h0, X', hL, e1, e2, ⟨hv, hP1, hz, hk⟩, st⟩ := hr T hT X
  cases hv
  rw [h0] at hz hk
  obtain ⟨t2, a1, b1⟩ := kk T'.heap (locs ++ L) (by rw [e1]; exact hP1) ⟨Nat.le_trans hS.1 (by rw [e1]; exact hz), fun q h1 h2 => by rw [e1, hk q (Nat.lt_of_lt_of_le h1 hS.1) (fun z => h2 (hA q z))]; exact hS.2.1 q h1 h2, fun q hq => by
      rcases List.mem_append.mp hq with h | h
      · exact hS.2.2 q h
      · exact hA _ (hL q h)⟩ (by rw [e1]; exact hz) (fun q h1 h2 => by rw [e1]; exact hk q h1 h2) T' rfl X'
  exact ⟨t2, st t2 a1, b1⟩
variable {y : MethodName} {bytes : ByteArray} {maxL n index : Nat} {ret : Option FieldType} {ws : List Cond} {rm : Room} {b : Addr} {As st : List Value} {v0 : Option Value} {z : Nat × Nat}
theorem pt_cV {C : String} {T : u_T} {N : Nat} (S : CallFix p m c cc nL s args Ts own) (hM : Met l y ws rm (va_Pc (.ref b :: As) (pt_Pre D tys z A w)) (pt_Q v0 D w' A) 0 0 A) (cw : CallW R s args own C index y bytes maxL ret ws rm 0 0 n) (hK : pt_KK D tys s) (hP : va_P D vwCl w H) (hS : va_S A H0 H locs) (hZ : pt_Zs z A s H0) (q0 ci : Nat) {fs : List Value} (he : w[q0]? = some (b, .inr (ci, fs))) (hc : vwCl[ci]? = some (C, T, N)) (hn : As.length = n) (hl : ls.size = nL) (hst : st = As.reverse ++ .ref b :: rest) (hroom : (rest.map fun v => v.category).sum ≤ 8) (hdg : decode cc pc = .ok (.invokevirtual index, 3)) (hcs : cells ≤ R.cells ∧ slots ≤ R.slots)
    (kk : ∀ (H1 : Heap) (locs1 : List Loc), va_P D vwCl w' H1 → va_S A H0 H1 locs1 → W p l e R s m args below meth c H1 locs1 cells slots Q (F0 m (pc + 3) ls (v0.toList ++ rest))) : W p l e R s m args below meth c H locs cells slots Q (F0 m pc ls st) :=
  pt_run (va_runV S hM cw ⟨pt_blind, va_recv hK.1 hP hc he, fun U hU hW => ⟨rfl, by rw [hU]; exact hP, hK.moved hW, by rw [hU]; exact (hZ.kept hS.2.1).moved hW.alike⟩⟩ rfl hn hl hst (lv_room hroom) hdg hcs) hS (fun _ h => h) (fun H1 locs1 hP1 hS1 _ _ => kk H1 locs1 hP1 hS1)
theorem pt_cS (S : CallFix p m c cc nL s args Ts own) (hM : Met l y ws rm (va_Pc As (pt_Pre D tys z A w)) (pt_Q v0 D w' A) 0 0 A) (cw : CallB R s args own index y bytes maxL ret ws rm 0 0 n ∧ (Cond.static y).before args s = true) (hK : pt_KK D tys s) (hP : va_P D vwCl w H) (hS : va_S A H0 H locs) (hZ : pt_Zs z A s H0) (hn : As.length = n) (hl : ls.size = nL) (hst : st = As.reverse ++ rest) (hroom : (rest.map fun v => v.category).sum ≤ 8) (hdg : decode cc pc = .ok (.invokestatic index, 3)) (hcs : cells ≤ R.cells ∧ slots ≤ R.slots)
    (kk : ∀ (H1 : Heap) (locs1 : List Loc), va_P D vwCl w' H1 → va_S A H0 H1 locs1 → W p l e R s m args below meth c H1 locs1 cells slots Q (F0 m (pc + 3) ls (v0.toList ++ rest))) : W p l e R s m args below meth c H locs cells slots Q (F0 m pc ls st) :=
  pt_run (va_runS S hM cw ⟨pt_blind, fun U hU hW => ⟨rfl, by rw [hU]; exact hP, hK.moved hW, by rw [hU]; exact (hZ.kept hS.2.1).moved hW.alike⟩⟩ rfl hn hl hst (lv_room hroom) hdg hcs) hS (fun _ h => h) (fun H1 locs1 hP1 hS1 _ _ => kk H1 locs1 hP1 hS1)
variable {r : Int32}
theorem pt_cVv {C : String} {T : u_T} {N : Nat} (S : CallFix p m c cc nL s args Ts own) (hM : Met l y ws rm (va_Pc (.ref b :: As) (pt_Pre D tys z A w)) (pt_Q none D w' A) 0 0 A) (cw : CallW R s args own C index y bytes maxL ret ws rm 0 0 n) (hK : pt_KK D tys s) (hP : va_P D vwCl w H) (hS : va_S A H0 H locs) (hZ : pt_Zs z A s H0) (q0 ci : Nat) {fs : List Value} (he : w[q0]? = some (b, .inr (ci, fs))) (hc : vwCl[ci]? = some (C, T, N)) (hn : As.length = n) (hl : ls.size = nL) (hst : st = As.reverse ++ .ref b :: rest) (hroom : (rest.map fun v => v.category).sum ≤ 8) (hdg : decode cc pc = .ok (.invokevirtual index, 3)) (hcs : cells ≤ R.cells ∧ slots ≤ R.slots)
    (kk : ∀ (H1 : Heap) (locs1 : List Loc), va_P D vwCl w' H1 → va_S A H0 H1 locs1 → W p l e R s m args below meth c H1 locs1 cells slots Q (F0 m (pc + 3) ls rest)) : W p l e R s m args below meth c H locs cells slots Q (F0 m pc ls st) :=
  pt_cV S hM cw hK hP hS hZ q0 ci he hc hn hl hst hroom hdg hcs kk
theorem pt_cVi {C : String} {T : u_T} {N : Nat} (S : CallFix p m c cc nL s args Ts own) (hM : Met l y ws rm (va_Pc (.ref b :: As) (pt_Pre D tys z A w)) (pt_Q (some (.int r)) D w' A) 0 0 A) (cw : CallW R s args own C index y bytes maxL ret ws rm 0 0 n) (hK : pt_KK D tys s) (hP : va_P D vwCl w H) (hS : va_S A H0 H locs) (hZ : pt_Zs z A s H0) (q0 ci : Nat) {fs : List Value} (he : w[q0]? = some (b, .inr (ci, fs))) (hc : vwCl[ci]? = some (C, T, N)) (hn : As.length = n) (hl : ls.size = nL) (hst : st = As.reverse ++ .ref b :: rest) (hroom : (rest.map fun v => v.category).sum ≤ 8) (hdg : decode cc pc = .ok (.invokevirtual index, 3)) (hcs : cells ≤ R.cells ∧ slots ≤ R.slots)
    (kk : ∀ (H1 : Heap) (locs1 : List Loc), va_P D vwCl w' H1 → va_S A H0 H1 locs1 → W p l e R s m args below meth c H1 locs1 cells slots Q (F0 m (pc + 3) ls (.int r :: rest))) : W p l e R s m args below meth c H locs cells slots Q (F0 m pc ls st) :=
  pt_cV S hM cw hK hP hS hZ q0 ci he hc hn hl hst hroom hdg hcs kk
theorem pt_cVo {C : String} {T : u_T} {N : Nat} {v : Value} (S : CallFix p m c cc nL s args Ts own) (hM : Met l y ws rm (va_Pc (.ref b :: As) (pt_Pre D tys z A w)) (pt_Q (some v) D w' A) 0 0 A) (cw : CallW R s args own C index y bytes maxL ret ws rm 0 0 n) (hK : pt_KK D tys s) (hP : va_P D vwCl w H) (hS : va_S A H0 H locs) (hZ : pt_Zs z A s H0) (q0 ci : Nat) {fs : List Value} (he : w[q0]? = some (b, .inr (ci, fs))) (hc : vwCl[ci]? = some (C, T, N)) (hn : As.length = n) (hl : ls.size = nL) (hst : st = As.reverse ++ .ref b :: rest) (hroom : (rest.map fun v => v.category).sum ≤ 8) (hdg : decode cc pc = .ok (.invokevirtual index, 3)) (hcs : cells ≤ R.cells ∧ slots ≤ R.slots)
    (kk : ∀ (H1 : Heap) (locs1 : List Loc), va_P D vwCl w' H1 → va_S A H0 H1 locs1 → W p l e R s m args below meth c H1 locs1 cells slots Q (F0 m (pc + 3) ls (v :: rest))) : W p l e R s m args below meth c H locs cells slots Q (F0 m pc ls st) :=
  pt_cV S hM cw hK hP hS hZ q0 ci he hc hn hl hst hroom hdg hcs kk
theorem pt_cSi (S : CallFix p m c cc nL s args Ts own) (hM : Met l y ws rm (va_Pc As (pt_Pre D tys z A w)) (pt_Q (some (.int r)) D w' A) 0 0 A) (cw : CallB R s args own index y bytes maxL ret ws rm 0 0 n ∧ (Cond.static y).before args s = true) (hK : pt_KK D tys s) (hP : va_P D vwCl w H) (hS : va_S A H0 H locs) (hZ : pt_Zs z A s H0) (hn : As.length = n) (hl : ls.size = nL) (hst : st = As.reverse ++ rest) (hroom : (rest.map fun v => v.category).sum ≤ 8) (hdg : decode cc pc = .ok (.invokestatic index, 3)) (hcs : cells ≤ R.cells ∧ slots ≤ R.slots)
    (kk : ∀ (H1 : Heap) (locs1 : List Loc), va_P D vwCl w' H1 → va_S A H0 H1 locs1 → W p l e R s m args below meth c H1 locs1 cells slots Q (F0 m (pc + 3) ls (.int r :: rest))) : W p l e R s m args below meth c H locs cells slots Q (F0 m pc ls st) :=
  pt_cS S hM cw hK hP hS hZ hn hl hst hroom hdg hcs kk
/-- a place of the line: a worker, or none -/
theorem pt_fkW {x : Int32} {ad : Nat → Nat} (h : pt_iw x) (kk : W p l e R s m args below meth c H locs cells slots Q (F0 m pc ls (.ref (ad (9 + x.toNatClampNeg)) :: rest))) : W p l e R s m args below meth c H locs cells slots Q (F0 m pc ls (va_rf (pt_ln ad x) :: rest)) := by
  have e1 : pt_ln ad x = some (ad (9 + x.toNatClampNeg)) := if_pos h
  rw [e1]; exact kk
theorem pt_fkN {x : Int32} {ad : Nat → Nat} (h : ¬ pt_iw x) (kk : W p l e R s m args below meth c H locs cells slots Q (F0 m pc ls (.null :: rest))) : W p l e R s m args below meth c H locs cells slots Q (F0 m pc ls (va_rf (pt_ln ad x) :: rest)) := by
  have e1 : pt_ln ad x = none := if_neg h
  rw [e1]; exact kk
theorem pt_asW {x : Int32} {ad : Nat → Nat} (h : pt_iw x) (kk : W p l e R s m args below meth c H locs cells slots Q (F0 m pc ls (va_rf (pt_ln ad x) :: rest))) : W p l e R s m args below meth c H locs cells slots Q (F0 m pc ls (.ref (ad (9 + x.toNatClampNeg)) :: rest)) := by
  have e1 : pt_ln ad x = some (ad (9 + x.toNatClampNeg)) := if_pos h
  rw [e1] at kk; exact kk
/-- the static tables are read -/
theorem pt_gs1 {index : Nat} (S : CallFix p m c cc nL s args Ts own) (hS : va_S A s.heap H locs) (hZ : pt_Zs z A s s.heap) (hlink : (Cond.fieldLink own index "PackThreads$Settings" "LEAST" "[I").before args s = true) (hdg : decode cc pc = .ok (.getstatic index, 3)) (kk : W p l e R s m args below meth c H locs cells slots Q (F0 m (pc + 3) ls (.ref z.1 :: rest))) : W p l e R s m args below meth c H locs cells slots Q (F0 m pc ls rest) :=
  va_gets S.1 S.2.1 hZ.1 hS S.2.2.2.1 hlink (fun _ h => h) hdg kk
theorem pt_gs2 {index : Nat} (S : CallFix p m c cc nL s args Ts own) (hS : va_S A s.heap H locs) (hZ : pt_Zs z A s s.heap) (hlink : (Cond.fieldLink own index "PackThreads$Settings" "MOST" "[I").before args s = true) (hdg : decode cc pc = .ok (.getstatic index, 3)) (kk : W p l e R s m args below meth c H locs cells slots Q (F0 m (pc + 3) ls (.ref z.2 :: rest))) : W p l e R s m args below meth c H locs cells slots Q (F0 m pc ls rest) :=
  va_gets S.1 S.2.1 hZ.2.2.1 hS S.2.2.2.1 hlink (fun _ h => h) hdg kk
theorem pt_sl1 (S : CallFix p m c cc nL s args Ts own) (hS : va_S A s.heap H locs) (hZ : pt_Zs z A s s.heap) (hdg : decode cc pc = .ok (.arraylength, 1)) (kk : W p l e R s m args below meth c H locs cells slots Q (F0 m (pc + 1) ls (.int 4 :: rest))) : W p l e R s m args below meth c H locs cells slots Q (F0 m pc ls (.ref z.1 :: rest)) :=
  va_tlen S.1 S.2.1 hZ.2.1 hS (v := 4) (by decide) hdg kk
theorem pt_sl2 (S : CallFix p m c cc nL s args Ts own) (hS : va_S A s.heap H locs) (hZ : pt_Zs z A s s.heap) (hdg : decode cc pc = .ok (.arraylength, 1)) (kk : W p l e R s m args below meth c H locs cells slots Q (F0 m (pc + 1) ls (.int 4 :: rest))) : W p l e R s m args below meth c H locs cells slots Q (F0 m pc ls (.ref z.2 :: rest)) :=
  va_tlen S.1 S.2.1 hZ.2.2.2 hS (v := 4) (by decide) hdg kk
theorem pt_si1 (S : CallFix p m c cc nL s args Ts own) (hS : va_S A s.heap H locs) (hZ : pt_Zs z A s s.heap) {i : Int32} (hi : pt_in i 4) (hdg : decode cc pc = .ok (.iaload, 1)) (kk : W p l e R s m args below meth c H locs cells slots Q (F0 m (pc + 1) ls (.int (pt_lo i.toNatClampNeg) :: rest))) : W p l e R s m args below meth c H locs cells slots Q (F0 m pc ls (.int i :: .ref z.1 :: rest)) :=
  va_ti S.1 S.2.1 hZ.2.1 hS hi rfl hdg kk
theorem pt_si2 (S : CallFix p m c cc nL s args Ts own) (hS : va_S A s.heap H locs) (hZ : pt_Zs z A s s.heap) {i : Int32} (hi : pt_in i 4) (hdg : decode cc pc = .ok (.iaload, 1)) (kk : W p l e R s m args below meth c H locs cells slots Q (F0 m (pc + 1) ls (.int (pt_hi i.toNatClampNeg) :: rest))) : W p l e R s m args below meth c H locs cells slots Q (F0 m pc ls (.int i :: .ref z.2 :: rest)) :=
  va_ti S.1 S.2.1 hZ.2.2.2 hS hi rfl hdg kk
end PT
/-- a call's answer and state get names -/
def pt_b2 {β : Type} (o : Option (Int32 × pt_St)) (f : Int32 → pt_St → Option β) : Option β := match o with
  | none => none
  | some q => f q.1 q.2
theorem pt_b2s {β : Type} {o : Option (Int32 × pt_St)} {f : Int32 → pt_St → Option β} {b : β} (h : pt_b2 o f = some b) : ∃ r σ, o = some (r, σ) ∧ f r σ = some b := by
  cases o with
  | none => cases h
  | some q => exact ⟨q.1, q.2, rfl, h⟩
def pt_b1 {β : Type} (o : Option pt_St) (f : pt_St → Option β) : Option β := match o with
  | none => none
  | some q => f q
theorem pt_b1s {β : Type} {o : Option pt_St} {f : pt_St → Option β} {b : β} (h : pt_b1 o f = some b) : ∃ σ, o = some σ ∧ f σ = some b := by
  cases o with
  | none => cases h
  | some q => exact ⟨q, rfl, h⟩
