theorem pt_b2e {β : Type} (r : Int32) (σ : pt_St) (f : Int32 → pt_St → Option β) : pt_b2 (some (r, σ)) f = f r σ := rfl
theorem pt_b1e {β : Type} (σ : pt_St) (f : pt_St → Option β) : pt_b1 (some σ) f = f σ := rfl
/-! ===== how many bytes are alike; the best copy ===== -/
def al_ (f : Nat → Int32) (d : Nat) : Nat → Nat → Nat
  | 0, _ => 0
  | m + 1, p => if f p = f (p - d) then al_ f d m (p + 1) + 1 else 0
theorem al_le (f : Nat → Int32) (d : Nat) : ∀ m p, al_ f d m p ≤ m
  | 0, _ => Nat.le_refl 0
  | m + 1, p => by
    unfold al_
    split
    · have := al_le f d m (p + 1); omega
    · omega
theorem at_ok {σ : pt_St} {i s : Nat} (hs : σ 1 1 = nI s) (hi : i < s) (h2 : s ≤ 160) : f_X7_at σ (nI i) = some (σ 15 i, σ) := by
  have q : (nI i).toInt = (i : Int) := i_nI (by omega)
  have q2 : (nI s).toInt = (s : Int) := i_nI (by omega)
  have q3 : (nI i).toInt.toNat = i := by omega
  simp (disch := omega) only [f_X7_at, hs, q3, q, q2, pt_in, ↓reduceIte, if_pos, if_neg, Int32.lt_iff_toInt_lt, Int32.le_iff_toInt_le, i_cl, i_0, i_160, Int.toNat_natCast]
theorem al_C {k : pt_St → Int32 → Option (Int32 × pt_St)} {a1 : Int32} {σ : pt_St} {e d s : Nat} (hs : σ 1 1 = nI s) (h2 : s ≤ 160) (he : e ≤ s) : ∀ (m p n : Nat), p + m = e → 1 ≤ d → d ≤ p → m < n → lp_X2_alike_3 k a1 (nI e) (nI d) n σ (nI p) = k σ (nI (p + al_ (σ 15) d m p)) := by
  intro m
  induction m with
  | zero =>
    intro p n hp hd1 hd2 hn
    obtain ⟨n, rfl⟩ : ∃ z, n = z + 1 := ⟨n - 1, by omega⟩
    have q : (nI p).toInt = (p : Int) := i_nI (by omega)
    have q2 : (nI e).toInt = (e : Int) := i_nI (by omega)
    rw [lp_X2_alike_3, if_pos (by rw [Int32.le_iff_toInt_le]; omega)]
    rfl
  | succ m ih =>
    intro p n hp hd1 hd2 hn
    obtain ⟨n, rfl⟩ : ∃ z, n = z + 1 := ⟨n - 1, by omega⟩
    have q : (nI p).toInt = (p : Int) := i_nI (by omega)
    have q2 : (nI e).toInt = (e : Int) := i_nI (by omega)
    rw [lp_X2_alike_3, if_neg (by rw [Int32.le_iff_toInt_le]; omega), at_ok hs (by omega) h2, pt_b2e, pk_sub hd2, at_ok hs (by omega) h2, pt_b2e]
    by_cases c : σ 15 p = σ 15 (p - d)
    · rw [if_pos c, nI_1, ih (p + 1) n (by omega) hd1 (by omega) (by omega)]
      have e1 : al_ (σ 15) d (m + 1) p = al_ (σ 15) d m (p + 1) + 1 := by rw [al_, if_pos c]
      rw [e1]
      congr 2
      omega
    · rw [if_neg c]
      have e1 : al_ (σ 15) d (m + 1) p = 0 := by rw [al_, if_neg c]
      rw [e1]
      rfl
theorem al_fC {σ : pt_St} {e d s p : Nat} (hs : σ 1 1 = nI s) (h2 : s ≤ 160) (he : e ≤ s) (hp : p ≤ e) (hd1 : 1 ≤ d) (hd2 : d ≤ p) : f_X2_alike σ (nI p) (nI e) (nI d) = some (nI (al_ (σ 15) d (e - p) p), σ) := by
  unfold f_X2_alike
  rw [al_C hs h2 he (e - p) p pt_F (by omega) hd1 hd2 (by unfold pt_F; omega)]
  unfold kx_X2_alike_3
  rw [pk_sub (by omega)]
  congr 3
  omega
theorem al_R {k : pt_St → Int32 → Option (Int32 × pt_St)} {τ : pt_St} {e d p0 : Nat} (he : e ≤ 160) (hd1 : 1 ≤ d) (hd2 : d ≤ p0) : ∀ (m i n : Nat), p0 + i + m = e → m < n → lp_X10_alike_3 k (nI p0) (nI e) (nI d) n τ (nI i) = k τ (nI (i + al_ (τ 1) d m (p0 + i))) := by
  intro m
  induction m with
  | zero =>
    intro i n hp hn
    obtain ⟨n, rfl⟩ : ∃ z, n = z + 1 := ⟨n - 1, by omega⟩
    have q : (nI (p0 + i)).toInt = ((p0 + i : Nat) : Int) := i_nI (by omega)
    have q2 : (nI e).toInt = (e : Int) := i_nI (by omega)
    rw [lp_X10_alike_3, nI_add, if_pos (by rw [Int32.le_iff_toInt_le]; omega)]
    rfl
  | succ m ih =>
    intro i n hp hn
    obtain ⟨n, rfl⟩ : ∃ z, n = z + 1 := ⟨n - 1, by omega⟩
    have q : (nI (p0 + i)).toInt = ((p0 + i : Nat) : Int) := i_nI (by omega)
    have q2 : (nI e).toInt = (e : Int) := i_nI (by omega)
    have q3 : (nI (p0 + i - d)).toInt = ((p0 + i - d : Nat) : Int) := i_nI (by omega)
    have q4 : (nI (p0 + i)).toInt.toNat = p0 + i := by omega
    have q5 : (nI (p0 + i - d)).toInt.toNat = p0 + i - d := by omega
    rw [lp_X10_alike_3, nI_add, if_neg (by rw [Int32.le_iff_toInt_le]; omega), pk_sub (by omega), if_pos (nI_in (by omega) (by omega)), if_pos (nI_in (by omega) (by omega)), i_cl, i_cl, q4, q5]
    by_cases c : τ 1 (p0 + i) = τ 1 (p0 + i - d)
    · rw [if_pos c, nI_1, ih (i + 1) n (by omega) (by omega)]
      have e1 : al_ (τ 1) d (m + 1) (p0 + i) = al_ (τ 1) d m (p0 + i + 1) + 1 := by rw [al_, if_pos c]
      rw [e1, show p0 + (i + 1) = p0 + i + 1 by omega]
      congr 2
      omega
    · rw [if_neg c]
      have e1 : al_ (τ 1) d (m + 1) (p0 + i) = 0 := by rw [al_, if_neg c]
      rw [e1]
      rfl
theorem al_fR {τ : pt_St} {e d p : Nat} (he : e ≤ 160) (hp : p ≤ e) (hd1 : 1 ≤ d) (hd2 : d ≤ p) : f_X10_alike τ (nI p) (nI e) (nI d) = some (nI (al_ (τ 1) d (e - p) p), τ) := by
  unfold f_X10_alike
  have := al_R (k := kx_X10_alike_3 (nI p) (nI e) (nI d)) (τ := τ) he hd1 hd2 (e - p) 0 pt_F (by omega) (by unfold pt_F; omega)
  rw [show nI 0 = (0 : Int32) by decide] at this
  rw [this]
  unfold kx_X10_alike_3
  rw [show p + 0 = p by omega, show 0 + al_ (τ 1) d (e - p) p = al_ (τ 1) d (e - p) p by omega]
