theorem lgc {x : Int64} : lg_cmp x 0 = 0 ↔ x = 0 := by
  unfold lg_cmp
  constructor
  · intro h
    by_cases h1 : (0 : Int64) < x
    · rw [if_pos h1] at h; exact absurd h (by decide)
    · rw [if_neg h1] at h
      by_cases h2 : x = 0
      · exact h2
      · first
          | (rw [if_neg h2] at h; exact absurd h (by decide))
          | (simp [h2] at h)
  · intro h
    subst h
    decide
def fnd (n : Nat) (f g : Nat → Int32) : Nat → Int32
  | 0 => nI 0
  | i + 1 => if n < 2 * cntE f (f i) n ∧ 0 ≤ f i then g i else fnd n f g i
theorem fnd_t {n : Nat} {f g : Nat → Int32} {i : Nat} (h : n < 2 * cntE f (f i) n ∧ 0 ≤ f i) : g i = fnd n f g (i + 1) := (if_pos h).symm
theorem fnd_f {n : Nat} {f g : Nat → Int32} {i : Nat} (h : ¬ (n < 2 * cntE f (f i) n ∧ 0 ≤ f i)) : fnd n f g i = fnd n f g (i + 1) := (if_neg h).symm
theorem fnd_no {n : Nat} {f g : Nat → Int32} : ∀ i, (∀ a, a < i → ¬ (n < 2 * cntE f (f a) n ∧ 0 ≤ f a)) → fnd n f g i = nI 0 := by
  intro i
  induction i with
  | zero => intro _; rfl
  | succ i ih => intro h; rw [← fnd_f (h i (by omega))]; exact ih (fun a ha => h a (by omega))
theorem fnd_some {n : Nat} {f g : Nat → Int32} {v : Int32} : ∀ i, (∀ a, a < i → n < 2 * cntE f (f a) n → g a = v) → (∃ a, a < i ∧ n < 2 * cntE f (f a) n ∧ 0 ≤ f a) → fnd n f g i = v := by
  intro i
  induction i with
  | zero => intro _ h; obtain ⟨a, ha, -⟩ := h; omega
  | succ i ih =>
    intro hv h
    by_cases q : n < 2 * cntE f (f i) n ∧ 0 ≤ f i
    · rw [← fnd_t q]; exact hv i (by omega) q.1
    · rw [← fnd_f q]
      obtain ⟨a, ha, h1⟩ := h
      by_cases e : a = i
      · subst e; exact absurd h1 q
      · exact ih (fun a ha => hv a (by omega)) ⟨a, by omega, h1⟩
theorem cho_no {n : Nat} {f g : Nat → Int32} : ∀ d i, (∀ a, a < i + d → ¬ n < 2 * cntE f (f a) n) → cho n f g d i = nI 0 := by
  intro d
  induction d with
  | zero => intro i _; rfl
  | succ d ih => intro i h; rw [cho_n (h i (by omega))]; exact ih (i + 1) (fun a ha => h a (by omega))
theorem cho_some {n : Nat} {f g : Nat → Int32} {v : Int32} : ∀ d i, (∀ a, a < i + d → n < 2 * cntE f (f a) n → g a = v) → (∃ a, i ≤ a ∧ a < i + d ∧ n < 2 * cntE f (f a) n) → cho n f g d i = v := by
  intro d
  induction d with
  | zero => intro i _ h; obtain ⟨a, h1, h2, -⟩ := h; omega
  | succ d ih =>
    intro i hv h
    by_cases q : n < 2 * cntE f (f i) n
    · rw [cho_s q]; exact hv i (by omega) q
    · rw [cho_n q]
      obtain ⟨a, h1, h2, h3⟩ := h
      by_cases e : a = i
      · subst e; exact absurd h3 q
      · exact ih (i + 1) (fun a ha => hv a (by omega)) ⟨a, by omega, by omega, h3⟩
theorem cho_fnd {n S : Nat} {x : St} {t : Nat} (ht : t < 100) (h : Inv n S x) : fnd n (fun a => x.1 9 a t) (fun a => x.1 10 a t) n = cho n (fun a => x.1 9 a t) (fun a => x.1 10 a t) n 0 := by
  by_cases hex : ∃ a, a < n ∧ n < 2 * cntE (fun a => x.1 9 a t) (x.1 9 a t) n
  · obtain ⟨a0, h1, h2⟩ := hex
    have hsame : ∀ a, n < 2 * cntE (fun a => x.1 9 a t) (x.1 9 a t) n → x.1 9 a t = x.1 9 a0 t := fun a ha => cntE_same ha h2
    by_cases hb : 0 ≤ x.1 9 a0 t
    · have hv : ∀ a, n < 2 * cntE (fun a => x.1 9 a t) (x.1 9 a t) n → x.1 10 a t = x.1 10 a0 t := fun a ha =>
        h.2.1.1 t (x.1 9 a0 t) _ _ ⟨ht, Or.inl ⟨a, hsame a ha, hb, rfl⟩⟩ ⟨ht, Or.inl ⟨a0, rfl, hb, rfl⟩⟩
      rw [fnd_some n (fun a _ q => hv a q) ⟨a0, h1, h2, hb⟩, cho_some n 0 (fun a _ q => hv a q) ⟨a0, by omega, by omega, h2⟩]
    · have hz : ∀ a, n < 2 * cntE (fun a => x.1 9 a t) (x.1 9 a t) n → x.1 10 a t = 0 := fun a ha => h.2.2.2.1.2.2 a t (by rw [hsame a ha]; exact Int32.not_le.mp hb)
      rw [fnd_no n (fun a _ q => hb (by have q2 : 0 ≤ x.1 9 a t := q.2; rw [hsame a q.1] at q2; exact q2)), cho_some n 0 (fun a _ q => hz a q) ⟨a0, by omega, by omega, h2⟩]
      rfl
  · rw [fnd_no n (fun a ha q => hex ⟨a, ha, q.1⟩), cho_no n 0 (fun a ha q => hex ⟨a, by omega, q⟩)]
theorem ldv_is {n P : Nat} {x : St} {j : Nat} (hj : j < P) (hno : ∀ m, m < j → ¬ (x.1 0 m 0 ≠ 0 ∧ ¬ sBlk n P x m)) (h : x.1 0 j 0 ≠ 0 ∧ ¬ sBlk n P x j) : ldv n P x P 0 = j := by
  obtain ⟨-, h2, h3, h4⟩ := ldv_spec n P x P 0
  by_cases q : ldv n P x P 0 < j
  · exact absurd (h4 (by omega)) (hno _ q)
  · by_cases q2 : j < ldv n P x P 0
    · exact absurd h (h3 j (by omega) q2)
    · omega
theorem ldv_all {n P : Nat} {x : St} {j : Nat} (hj : j = P) (hno : ∀ m, m < j → ¬ (x.1 0 m 0 ≠ 0 ∧ ¬ sBlk n P x m)) : ldv n P x P 0 = P := by
  subst hj
  obtain ⟨-, h2, -, h4⟩ := ldv_spec n j x j 0
  by_cases q : ldv n j x j 0 < j
  · exact absurd (h4 (by omega)) (hno _ q)
  · omega
theorem ho_pos {n S P : Nat} {x : St} {j : Nat} (h : Inv n S x) (hk : x.1 0 j 0 ≠ 0) : 0 ≤ (sHo n P x j).1 := by
  unfold sHo
  split
  · exact nI_pos' (by decide)
  · obtain ⟨k, b, a, t, h1, h2, -, -, -, e, -⟩ := h.1 j hk
    show 0 ≤ x.1 0 j 0
    rw [e]; exact nI_pos' (by omega)
theorem del_is {n P : Nat} {x : St} {j : Nat} (hP : P < 2 ^ 31) (hj : j < P) (hk : x.1 0 j 0 ≠ 0) : sDel n P x (nI j) = if sBlk n P x j then (-4, x) else sHo n P x j := by
  unfold sDel
  have e : ix (nI j) = j := ix_nI hj hP
  rw [if_pos ⟨okN_nI hj hP, by rw [e]; exact hk⟩, e]
theorem del_pos {n S P : Nat} {x : St} {j : Nat} (h : Inv n S x) (hP : P < 2 ^ 31) (hj : j < P) (hk : x.1 0 j 0 ≠ 0) (hb : ¬ sBlk n P x j) : 0 ≤ (sDel n P x (nI j)).1 := by
  rw [del_is hP hj hk, if_neg hb]; exact ho_pos h hk
theorem del_neg {n S P : Nat} {x : St} {j : Nat} (h : Inv n S x) (hP : P < 2 ^ 31) (hj : j < P) (hk : x.1 0 j 0 ≠ 0) (hc : (sDel n P x (nI j)).1 < 0) : (sDel n P x (nI j)).2 = x := by
  by_cases hb : sBlk n P x j
  · rw [del_is hP hj hk, if_pos hb]
  · exact absurd (del_pos h hP hj hk hb) (Int32.not_le.mpr hc)
theorem del_yes {n S P : Nat} {x : St} {j : Nat} (h : Inv n S x) (hP : P < 2 ^ 31) (hj : j < P) (hk : x.1 0 j 0 ≠ 0) (hc : ¬ (sDel n P x (nI j)).1 < 0) : ¬ sBlk n P x j ∧ (sDel n P x (nI j)).2 = (sHo n P x j).2 := by
  by_cases hb : sBlk n P x j
  · rw [del_is hP hj hk, if_pos hb] at hc
    exact absurd (show (-4 : Int32) < 0 by decide) hc
  · rw [del_is hP hj hk, if_neg hb]; exact ⟨hb, rfl⟩
