/-! Bits and counts -/
theorem msk_bit {f : Nat → Int32} {a : Nat} : ∀ n, a < n → msk f n / 2 ^ a % 2 = if f a = 0 then 1 else 0 := by
  intro n
  induction n with
  | zero => intro h; omega
  | succ n ih =>
    intro h
    have hlt := msk_lt f n
    have hp : 0 < 2 ^ n := Nat.two_pow_pos n
    unfold msk
    by_cases han : a = n
    · subst han
      by_cases hf : f a = 0
      · rw [if_pos hf, if_pos hf, Nat.add_div_right _ hp, Nat.div_eq_of_lt hlt]
      · rw [if_neg hf, if_neg hf, Nat.add_zero, Nat.div_eq_of_lt hlt]
    · have h1 := ih (by omega)
      by_cases hf : f n = 0
      · rw [if_pos hf]
        have e : 2 ^ n = 2 ^ a * (2 * 2 ^ (n - a - 1)) := by
          rw [show 2 * 2 ^ (n - a - 1) = 2 ^ (n - a - 1 + 1) by rw [Nat.pow_succ]; omega, ← Nat.pow_add]
          congr 1
          omega
        rw [e, Nat.add_mul_div_left _ _ (Nat.two_pow_pos a), Nat.add_mul_mod_self_left]
        exact h1
      · rw [if_neg hf, Nat.add_zero]
        exact h1
theorem bit_fin : ∀ M, M < 32 → ∀ a, a < 5 → (nI M >>> (nI a &&& 31)) &&& nI 1 = nI (M / 2 ^ a % 2) := by decide +kernel
theorem clr_fin : ∀ M, M < 32 → ∀ a, a < 5 → M / 2 ^ a % 2 = 1 → nI M &&& ((nI 1 <<< (nI a &&& 31)) ^^^ (-1)) = nI (M - 2 ^ a) := by decide +kernel
theorem set_fin : ∀ M, M < 32 → ∀ a, a < 5 → M / 2 ^ a % 2 = 0 → nI M ||| (nI 1 <<< (nI a &&& 31)) = nI (M + 2 ^ a) := by decide +kernel
theorem orb_fin : ∀ k, k < 32 → ∀ b, b < 5 → orb (nI k) (nI b) = nI (k ||| 2 ^ b) ∧ (k ||| 2 ^ b) < 32 := by decide +kernel
theorem ini_fin : ∀ n, n < 6 → (nI 1 <<< (nI n &&& 31)) - nI 1 = nI (2 ^ n - 1) := by decide +kernel
theorem p5 {n : Nat} (h : n ≤ 5) : 2 ^ n ≤ 32 := by
  have : 2 ^ n ≤ 2 ^ 5 := Nat.pow_le_pow_right (by decide) h
  omega
theorem msk_32 (f : Nat → Int32) {n : Nat} (h : n ≤ 5) : msk f n < 32 := Nat.lt_of_lt_of_le (msk_lt f n) (p5 h)
theorem up_val {f : Nat → Int32} {n a : Nat} (ha : a < n) (hn : n ≤ 5) : (nI (msk f n) >>> (nI a &&& 31)) &&& nI 1 = if f a = 0 then nI 1 else nI 0 := by
  rw [bit_fin _ (msk_32 f hn) a (by omega), msk_bit n ha]
  split <;> rfl
theorem msk_ext {f g : Nat → Int32} : ∀ i, (∀ j, j < i → f j = g j) → msk f i = msk g i := by
  intro i
  induction i with
  | zero => intro _; rfl
  | succ i ih =>
    intro h
    unfold msk
    rw [ih (fun j hj => h j (by omega)), h i (by omega)]
theorem msk_clr {f : Nat → Int32} {a : Nat} {v : Int32} (hv : v ≠ 0) (hf : f a = 0) : ∀ n, a < n → msk (upd f a v) n + 2 ^ a = msk f n := by
  intro n
  induction n with
  | zero => intro h; omega
  | succ n ih =>
    intro h
    unfold msk
    by_cases hn : n = a
    · subst hn
      rw [msk_ext (g := f) n (fun j hj => by unfold upd; rw [if_neg (by omega)])]
      unfold upd
      rw [if_pos rfl, if_neg hv, if_pos hf]
      omega
    · have h1 := ih (by omega)
      have : upd f a v n = f n := by unfold upd; rw [if_neg hn]
      rw [this]
      omega
theorem crash_val {f : Nat → Int32} {n a : Nat} {v : Int32} (ha : a < n) (hn : n ≤ 5) (hv : v ≠ 0) (hf : f a = 0) : nI (msk f n) &&& ((nI 1 <<< (nI a &&& 31)) ^^^ (-1)) = nI (msk (upd f a v) n) := by
  rw [clr_fin _ (msk_32 f hn) a (by omega) (by rw [msk_bit n ha, if_pos hf])]
  have := msk_clr hv hf n ha
  congr 1
  omega
theorem back_val {f : Nat → Int32} {n a : Nat} (ha : a < n) (hn : n ≤ 5) (hf : f a ≠ 0) : nI (msk f n) ||| (nI 1 <<< (nI a &&& 31)) = nI (msk (upd f a (nI 0)) n) := by
  rw [set_fin _ (msk_32 f hn) a (by omega) (by rw [msk_bit n ha, if_neg hf])]
  have h1 := msk_clr (f := upd f a (nI 0)) (a := a) (v := f a) hf (by unfold upd; rw [if_pos rfl]; rfl) n ha
  have h2 : upd (upd f a (nI 0)) a (f a) = f := by
    funext i
    unfold upd
    by_cases h : i = a
    · rw [if_pos h, h]
    · rw [if_neg h, if_neg h]
  rw [h2] at h1
  exact congrArg nI h1
theorem pop_msk {f : Nat → Int32} {n : Nat} (hn : n ≤ 5) : popn (msk f n) = cntE f 0 n := by
  rcases (show n = 0 ∨ n = 1 ∨ n = 2 ∨ n = 3 ∨ n = 4 ∨ n = 5 by omega) with rfl | rfl | rfl | rfl | rfl | rfl
  · simp [popn, msk, cntE]
  · by_cases h0 : f 0 = 0 <;> simp [popn, msk, cntE, h0]
  · by_cases h0 : f 0 = 0 <;> by_cases h1 : f 1 = 0 <;> simp [popn, msk, cntE, h0, h1]
  · by_cases h0 : f 0 = 0 <;> by_cases h1 : f 1 = 0 <;> by_cases h2 : f 2 = 0 <;> simp [popn, msk, cntE, h0, h1, h2]
  · by_cases h0 : f 0 = 0 <;> by_cases h1 : f 1 = 0 <;> by_cases h2 : f 2 = 0 <;> by_cases h3 : f 3 = 0 <;> simp [popn, msk, cntE, h0, h1, h2, h3]
  · by_cases h0 : f 0 = 0 <;> by_cases h1 : f 1 = 0 <;> by_cases h2 : f 2 = 0 <;> by_cases h3 : f 3 = 0 <;> by_cases h4 : f 4 = 0 <;> simp [popn, msk, cntE, h0, h1, h2, h3, h4]
theorem cntE_two {f : Nat → Int32} {b c : Int32} (h : b ≠ c) : ∀ n, cntE f b n + cntE f c n ≤ n := by
  intro n
  induction n with
  | zero => exact Nat.le_refl _
  | succ n ih =>
    unfold cntE
    by_cases h1 : f n = b
    · rw [if_pos h1, if_neg (fun q => h (h1.symm.trans q))]; omega
    · rw [if_neg h1]; split <;> omega
theorem cntE_same {f : Nat → Int32} {b c : Int32} {n : Nat} (h1 : n < 2 * cntE f b n) (h2 : n < 2 * cntE f c n) : b = c := by
  by_cases h : b = c
  · exact h
  · have := cntE_two (f := f) h n
    omega
def ush (x y : Int32) : Int32 := (x.toUInt32 >>> (y.toUInt32 &&& Int32.toUInt32 31)).toInt32
def bc1 (i : Int32) : Int32 := i - (ush i (nI 1) &&& 1431655765)
def bc2 (i : Int32) : Int32 := (i &&& 858993459) + (ush i (nI 2) &&& 858993459)
def bc3 (i : Int32) : Int32 := (i + ush i (nI 4)) &&& 252645135
def bc4 (i : Int32) : Int32 := i + ush i (nI 8)
def bc5 (i : Int32) : Int32 := i + ush i (nI 16)
theorem bc_fin : ∀ k, k < 32 → bc5 (bc4 (bc3 (bc2 (bc1 (nI k))))) &&& nI 63 = nI (popn k) := by decide +kernel
