/-! The mathematical state x: component, then two numbers.
0 m k: field k of the message at place m; by node and slot: 1 phase, 2 last ballot, 3 promised bits, 4 best ballot, 5 the value that stands, 6 the wish, 7 the best value, 8 promised, 9 accepted ballot, 10 accepted value, 11 decree; 12 0 0 deliveries, 12 0 1 lost; 13 a 0 one where node a is down; in its second half, by node, slot and node: 0 heard ballot, 1 heard value -/
abbrev St : Type := (Nat → Nat → Nat → Int32) × (Nat → Nat → Nat → Nat → Int32)
def up2 (f : Nat → Nat → Int32) (a s : Nat) (v : Int32) : Nat → Nat → Int32 := fun a' s' => if a' = a ∧ s' = s then v else f a' s'
def up3 (f : Nat → Nat → Nat → Int32) (a s b : Nat) (v : Int32) : Nat → Nat → Nat → Int32 := fun a' s' b' => if a' = a ∧ s' = s ∧ b' = b then v else f a' s' b'
def put (x : St) (c a s : Nat) (v : Int32) : St := (fun c' => if c' = c then up2 (x.1 c) a s v else x.1 c', x.2)
def pth (x : St) (c a s b : Nat) (v : Int32) : St := (x.1, fun c' => if c' = c then up3 (x.2 c) a s b v else x.2 c')
theorem put_h {x : St} {c a s : Nat} {v : Int32} : (put x c a s v).2 = x.2 := rfl
theorem pth_x {x : St} {c a s b : Nat} {v : Int32} : (pth x c a s b v).1 = x.1 := rfl
theorem put_o {x : St} {c a s : Nat} {v : Int32} {c' : Nat} (h : c' ≠ c) : (put x c a s v).1 c' = x.1 c' := by
  unfold put; simp only [if_neg h]
theorem put_c {x : St} {c a s : Nat} {v : Int32} : (put x c a s v).1 c = up2 (x.1 c) a s v := by
  unfold put; simp only [if_true]
theorem pth_o {x : St} {c a s b : Nat} {v : Int32} {c' : Nat} (h : c' ≠ c) : (pth x c a s b v).2 c' = x.2 c' := by
  unfold pth; simp only [if_neg h]
theorem pth_c {x : St} {c a s b : Nat} {v : Int32} : (pth x c a s b v).2 c = up3 (x.2 c) a s b v := by
  unfold pth; simp only [if_true]
theorem up2_s {f : Nat → Nat → Int32} {a s : Nat} {v : Int32} : up2 f a s v a s = v := by
  unfold up2; rw [if_pos ⟨rfl, rfl⟩]
theorem up2_n {f : Nat → Nat → Int32} {a s a' s' : Nat} {v : Int32} (h : ¬ (a' = a ∧ s' = s)) : up2 f a s v a' s' = f a' s' := by
  unfold up2; rw [if_neg h]
/-- an array by rows of S -/
def sq (S : Nat) (f : Nat → Nat → Int32) : Nat → Int32 := fun i => f (i / S) (i % S)
theorem dv_at {a S s : Nat} (h : s < S) : (a * S + s) / S = a ∧ (a * S + s) % S = s := by
  have hS : 0 < S := by omega
  constructor
  · rw [Nat.mul_comm, Nat.mul_add_div hS, Nat.div_eq_of_lt h, Nat.add_zero]
  · rw [Nat.mul_comm, Nat.mul_add_mod, Nat.mod_eq_of_lt h]
theorem sq_at {S a s : Nat} {f : Nat → Nat → Int32} (h : s < S) : sq S f (a * S + s) = f a s := by
  unfold sq; rw [(dv_at h).1, (dv_at h).2]
theorem sq_up {S a s : Nat} {f : Nat → Nat → Int32} {v : Int32} (h : s < S) : upd (sq S f) (a * S + s) v = sq S (up2 f a s v) := by
  funext i
  unfold upd sq up2
  by_cases hi : i = a * S + s
  · subst hi
    rw [if_pos rfl, if_pos (dv_at h)]
  · rw [if_neg hi, if_neg]
    intro hh
    exact hi (by rw [← hh.1, ← hh.2]; exact (Nat.div_add_mod' i S).symm)
theorem sq_ext {S : Nat} (hS : 0 < S) {f g : Nat → Nat → Int32} (h : ∀ a s, s < S → f a s = g a s) : sq S f = sq S g := by
  funext i
  unfold sq
  exact h _ _ (Nat.mod_lt _ hS)
/-- a column -/
def col (f : Nat → Nat → Int32) (k : Nat) : Nat → Int32 := fun i => f i k
theorem col_up {f : Nat → Nat → Int32} {m k : Nat} {v : Int32} : upd (col f k) m v = col (up2 f m k v) k := by
  funext i
  unfold upd col up2
  by_cases hi : i = m
  · rw [if_pos hi, if_pos ⟨hi, rfl⟩]
  · rw [if_neg hi, if_neg (fun h => hi h.1)]
theorem col_o {f : Nat → Nat → Int32} {m k k' : Nat} {v : Int32} (h : k' ≠ k) : col (up2 f m k v) k' = col f k' := by
  funext i
  unfold col up2
  rw [if_neg (fun q => h q.2)]
/-- what is heard, by rows of n and of 5 -/
def hq (n S : Nat) (h : Nat → Nat → Nat → Int32) : Nat → Int32 := fun i => h (i / n / S) (i / n % S) (i % n)
def hr (h : Nat → Nat → Nat → Int32) : Nat → Int32 := fun i => h (i / 20) (i / 5 % 4) (i % 5)
theorem hq_at {n S a s b : Nat} {h : Nat → Nat → Nat → Int32} (hb : b < n) (hs : s < S) : hq n S h ((a * S + s) * n + b) = h a s b := by
  unfold hq
  rw [(dv_at hb).1, (dv_at hb).2, (dv_at hs).1, (dv_at hs).2]
theorem hq_up {n S a s b : Nat} {h : Nat → Nat → Nat → Int32} {v : Int32} (hb : b < n) (hs : s < S) : upd (hq n S h) ((a * S + s) * n + b) v = hq n S (up3 h a s b v) := by
  funext i
  unfold upd hq up3
  by_cases hi : i = (a * S + s) * n + b
  · subst hi
    rw [if_pos rfl, (dv_at hb).1, (dv_at hb).2, (dv_at hs).1, (dv_at hs).2, if_pos ⟨rfl, rfl, rfl⟩]
  · rw [if_neg hi, if_neg]
    intro hh
    apply hi
    have h1 : i / n = a * S + s := by rw [← hh.1, ← hh.2.1]; exact (Nat.div_add_mod' (i / n) S).symm
    rw [← h1, ← hh.2.2]
    exact (Nat.div_add_mod' i n).symm
theorem hr_at {a s b : Nat} {h : Nat → Nat → Nat → Int32} (hb : b < 5) (hs : s < 4) : hr h (20 * a + 5 * s + b) = h a s b := by
  unfold hr
  rw [show (20 * a + 5 * s + b) % 5 = b by omega, show (20 * a + 5 * s + b) / 20 = a by omega, show (20 * a + 5 * s + b) / 5 % 4 = s by omega]
theorem hr_up {a s b : Nat} {h : Nat → Nat → Nat → Int32} {v : Int32} (hb : b < 5) (hs : s < 4) : upd (hr h) (20 * a + 5 * s + b) v = hr (up3 h a s b v) := by
  funext i
  unfold upd hr up3
  by_cases hi : i = 20 * a + 5 * s + b
  · rw [if_pos hi, if_pos (by omega)]
  · rw [if_neg hi, if_neg (by omega)]
/-- the least place without a message -/
def lst (f : Nat → Int32) : Nat → Nat → Nat
  | 0, i => i
  | d + 1, i => if f i = 0 then i else lst f d (i + 1)
theorem lst_s {f : Nat → Int32} {d i : Nat} (h : f i = 0) : lst f (d + 1) i = i := by
  show (if f i = 0 then i else lst f d (i + 1)) = i
  rw [if_pos h]
theorem lst_n {f : Nat → Int32} {d i : Nat} (h : ¬ f i = 0) : lst f (d + 1) i = lst f d (i + 1) := by
  show (if f i = 0 then i else lst f d (i + 1)) = _
  rw [if_neg h]
theorem lst_spec (f : Nat → Int32) : ∀ d i, i ≤ lst f d i ∧ lst f d i ≤ i + d ∧ (∀ j, i ≤ j → j < lst f d i → f j ≠ 0) ∧ (lst f d i < i + d → f (lst f d i) = 0) := by
  intro d
  induction d with
  | zero => intro i; unfold lst; exact ⟨Nat.le_refl _, Nat.le_refl _, fun j h1 h2 => by omega, fun h => by omega⟩
  | succ d ih =>
    intro i
    unfold lst
    by_cases h : f i = 0
    · rw [if_pos h]
      exact ⟨Nat.le_refl _, by omega, fun j h1 h2 => by omega, fun _ => h⟩
    · rw [if_neg h]
      obtain ⟨h1, h2, h3, h4⟩ := ih (i + 1)
      refine ⟨by omega, by omega, fun j a b => ?_, fun a => h4 (by omega)⟩
      by_cases hj : j = i
      · subst hj; exact h
      · exact h3 j (by omega) b
/-- how many of the first places hold a message -/
def cnt (f : Nat → Int32) : Nat → Nat
  | 0 => 0
  | i + 1 => cnt f i + (if f i = 0 then 0 else 1)
theorem cnt_le (f : Nat → Int32) : ∀ i, cnt f i ≤ i := by
  intro i
  induction i with
  | zero => exact Nat.le_refl _
  | succ i ih => unfold cnt; split <;> omega
theorem cnt_ext {f g : Nat → Int32} : ∀ i, (∀ j, j < i → f j = g j) → cnt f i = cnt g i := by
  intro i
  induction i with
  | zero => intro _; rfl
  | succ i ih =>
    intro h
    unfold cnt
    rw [ih (fun j hj => h j (by omega)), h i (by omega)]
theorem cnt_set {f : Nat → Int32} {m : Nat} {v : Int32} (hm : f m = 0) (hv : v ≠ 0) : ∀ i, m < i → cnt (upd f m v) i = cnt f i + 1 := by
  intro i
  induction i with
  | zero => intro h; omega
  | succ i ih =>
    intro h
    unfold cnt
    by_cases hi : i = m
    · subst hi
      rw [cnt_ext (g := f) i (fun j hj => by unfold upd; rw [if_neg (by omega)])]
      unfold upd
      rw [if_pos rfl, if_neg hv, if_pos hm]
    · rw [ih (by omega)]
      have : upd f m v i = f i := by unfold upd; rw [if_neg hi]
      rw [this]
      split <;> omega
theorem cnt_clr {f : Nat → Int32} {m : Nat} (hm : f m ≠ 0) : ∀ i, m < i → cnt (upd f m 0) i + 1 = cnt f i := by
  intro i
  induction i with
  | zero => intro h; omega
  | succ i ih =>
    intro h
    unfold cnt
    by_cases hi : i = m
    · subst hi
      rw [cnt_ext (g := f) i (fun j hj => by unfold upd; rw [if_neg (by omega)])]
      unfold upd
      rw [if_pos rfl, if_pos rfl, if_neg hm]
    · have h1 := ih (by omega)
      have : upd f m 0 i = f i := by unfold upd; rw [if_neg hi]
      rw [this]
      split <;> omega
theorem cnt_lst {f : Nat → Int32} : ∀ i, cnt f i < i → ∃ j, j < i ∧ f j = 0 := by
  intro i
  induction i with
  | zero => intro h; omega
  | succ i ih =>
    intro h
    unfold cnt at h
    by_cases hf : f i = 0
    · exact ⟨i, by omega, hf⟩
    · rw [if_neg hf] at h
      obtain ⟨j, h1, h2⟩ := ih (by omega)
      exact ⟨j, by omega, h2⟩
theorem lst_lt {f : Nat → Int32} {P : Nat} (h : cnt f P < P) : lst f P 0 < P := by
  obtain ⟨j, h1, h2⟩ := cnt_lst P h
  obtain ⟨-, a2, a3, -⟩ := lst_spec f P 0
  by_cases hh : lst f P 0 < P
  · exact hh
  · exact absurd h2 (a3 j (by omega) (by omega))
theorem lst_full {f : Nat → Int32} {P : Nat} (h : cnt f P = P) : lst f P 0 = P := by
  obtain ⟨-, a2, -, a4⟩ := lst_spec f P 0
  by_cases hh : lst f P 0 < P
  · have h0 := a4 (by omega)
    have h1 := cnt_set (v := 1) h0 (by decide) P hh
    have h2 := cnt_le (upd f (lst f P 0) 1) P
    omega
  · omega
/-- a message into a place -/
def put7 (x : St) (m : Nat) (k s r sl b v o : Int32) : St := put (put (put (put (put (put (put x 0 m 0 k) 0 m 1 s) 0 m 2 r) 0 m 3 sl) 0 m 4 b) 0 m 5 v) 0 m 6 o
def lstx (P : Nat) (x : St) : Nat := lst (col (x.1 0) 0) P 0
def cntx (P : Nat) (x : St) : Nat := cnt (col (x.1 0) 0) P
def send1 (P : Nat) (x : St) (k s r sl b v o : Int32) : St := put7 x (lstx P x) k s r sl b v o
def sendA (P : Nat) (x : St) (k s sl b v : Int32) : Nat → St
  | 0 => x
  | i + 1 => send1 P (sendA P x k s sl b v i) k s (nI i) sl b v (-1)
/-- the nodes that are up, as bits -/
def msk (f : Nat → Int32) : Nat → Nat
  | 0 => 0
  | i + 1 => msk f i + (if f i = 0 then 2 ^ i else 0)
theorem msk_lt (f : Nat → Int32) : ∀ i, msk f i < 2 ^ i := by
  intro i
  induction i with
  | zero => exact Nat.two_pow_pos 0
  | succ i ih =>
    unfold msk
    have : 2 ^ (i + 1) = 2 ^ i + 2 ^ i := by rw [Nat.pow_succ]; omega
    split <;> omega
def up7 (g : Nat → Nat → Int32) (m : Nat) (k s r sl b v o : Int32) : Nat → Nat → Int32 := up2 (up2 (up2 (up2 (up2 (up2 (up2 g m 0 k) m 1 s) m 2 r) m 3 sl) m 4 b) m 5 v) m 6 o
theorem put7_c {x : St} {m : Nat} {k s r sl b v o : Int32} : (put7 x m k s r sl b v o).1 0 = up7 (x.1 0) m k s r sl b v o := by
  simp only [put7, up7, put_c]
theorem put7_o {x : St} {m c : Nat} {k s r sl b v o : Int32} (h : c ≠ 0) : (put7 x m k s r sl b v o).1 c = x.1 c := by
  simp only [put7, put_o h]
theorem nI_nm1 {j : Nat} (h : j < 2 ^ 31) : ¬ nI j = -1 := by
  intro q
  have a := nI_toInt h
  rw [q] at a
  have : (-1 : Int32).toInt = -1 := by decide
  omega
theorem wi_of {v : Int32} {P : Nat} (h1 : 1 ≤ P) (hP : P < 2 ^ 31) (h : nI 0 ≤ v ∧ v ≤ nI (P - 1)) : ∃ j, j < P ∧ v = nI j := by
  have h0 : ¬ v < 0 := Int32.not_lt.mpr h.1
  obtain ⟨j, hj, rfl⟩ := nI_of h0
  have := (nI_leI hj (by omega)).mp h.2
  exact ⟨j, by omega, rfl⟩
theorem seat_lt {n S a s : Nat} (ha : a < n) (hs : s < S) : a * S + s < n * S := by
  have h1 : (a + 1) * S ≤ n * S := Nat.mul_le_mul_right S ha
  rw [Nat.add_mul, Nat.one_mul] at h1
  omega
def fillr (f : Nat → Int32) (o : Nat) (v : Int32) : Nat → (Nat → Int32)
  | 0 => f
  | i + 1 => upd (fillr f o v i) (o + i) v
theorem fillr_at (f : Nat → Int32) (o : Nat) (v : Int32) : ∀ i j, fillr f o v i j = if o ≤ j ∧ j < o + i then v else f j := by
  intro i
  induction i with
  | zero => intro j; rw [if_neg (by omega)]; rfl
  | succ i ih =>
    intro j
    show upd (fillr f o v i) (o + i) v j = _
    unfold upd
    by_cases h : j = o + i
    · rw [if_pos h, if_pos (by omega)]
    · rw [if_neg h, ih j]
      by_cases h2 : o ≤ j ∧ j < o + i
      · rw [if_pos h2, if_pos (by omega)]
      · rw [if_neg h2, if_neg (by omega)]
