/-! What holds of every reached state -/
theorem put_at {x : St} {c a s c' a' s' : Nat} {v : Int32} : (put x c a s v).1 c' a' s' = if c' = c ∧ a' = a ∧ s' = s then v else x.1 c' a' s' := by
  by_cases h : c' = c
  · subst h
    rw [put_c]
    unfold up2
    by_cases h2 : a' = a ∧ s' = s
    · rw [if_pos h2, if_pos ⟨rfl, h2⟩]
    · rw [if_neg h2, if_neg (fun q => h2 q.2)]
  · rw [put_o h, if_neg (fun q => h q.1)]
theorem up7_n {g : Nat → Nat → Int32} {m m' j : Nat} {k s r sl b v o : Int32} (h : m' ≠ m) : up7 g m k s r sl b v o m' j = g m' j := by
  unfold up7
  simp only [up2_n (fun q => h q.1)]
theorem up7_s {g : Nat → Nat → Int32} {m : Nat} {k s r sl b v o : Int32} : up7 g m k s r sl b v o m 0 = k ∧ up7 g m k s r sl b v o m 1 = s ∧ up7 g m k s r sl b v o m 2 = r ∧ up7 g m k s r sl b v o m 3 = sl ∧ up7 g m k s r sl b v o m 4 = b ∧ up7 g m k s r sl b v o m 5 = v ∧ up7 g m k s r sl b v o m 6 = o := by
  refine ⟨?_, ?_, ?_, ?_, ?_, ?_, ?_⟩ <;> (unfold up7 up2; simp)
theorem col_up7 {g : Nat → Nat → Int32} {m : Nat} {k s r sl b v o : Int32} : col (up7 g m k s r sl b v o) 0 = upd (col g 0) m k := by
  funext i
  unfold upd
  by_cases h : i = m
  · subst h; rw [if_pos rfl]; exact up7_s.1
  · rw [if_neg h]; exact up7_n h
theorem cnt_send {P : Nat} {x : St} {k s r sl b v o : Int32} (hk : k ≠ 0) (h : cntx P x < P) : cntx P (send1 P x k s r sl b v o) = cntx P x + 1 := by
  unfold cntx send1
  rw [put7_c, col_up7]
  have hl : lst (col (x.1 0) 0) P 0 < P := lst_lt h
  exact cnt_set ((lst_spec _ P 0).2.2.2 (by omega)) hk P hl
theorem cnt_out {P : Nat} {x : St} {m : Nat} (hm : m < P) (h : x.1 0 m 0 ≠ 0) : cntx P (put x 0 m 0 (nI 0)) + 1 = cntx P x := by
  unfold cntx
  rw [put_c, ← col_up]
  exact cnt_clr (f := col (x.1 0) 0) (m := m) h P hm
theorem cnt_pos {P : Nat} {x : St} {m : Nat} (hm : m < P) (h : x.1 0 m 0 ≠ 0) : 1 ≤ cntx P x := by
  have := cnt_out hm h
  omega
theorem cnt_sendA {P : Nat} {x : St} {k s sl b v : Int32} (hk : k ≠ 0) : ∀ i, cntx P x + i ≤ P → cntx P (sendA P x k s sl b v i) = cntx P x + i := by
  intro i
  induction i with
  | zero => intro _; rfl
  | succ i ih =>
    intro h
    have h1 := ih (by omega)
    show cntx P (send1 P (sendA P x k s sl b v i) k s (nI i) sl b v (-1)) = _
    rw [cnt_send hk (by omega), h1]
    omega
/-- a message that can be sent -/
def vmsg (n S : Nat) (k s r sl v : Int32) : Prop := ∃ k' b a s' : Nat, 1 ≤ k' ∧ k' ≤ 5 ∧ b < n ∧ a < n ∧ s' < S ∧ k = nI k' ∧ s = nI b ∧ r = nI a ∧ sl = nI s' ∧ 0 ≤ v
def Imsg (n S : Nat) (x : St) : Prop := ∀ m, x.1 0 m 0 ≠ 0 → vmsg n S (x.1 0 m 0) (x.1 0 m 1) (x.1 0 m 2) (x.1 0 m 3) (x.1 0 m 5)
/-- the ballots that have a value -/
def Pr (x : St) (s : Nat) (b v : Int32) : Prop := (∃ a, x.1 9 a s = b ∧ 0 ≤ b ∧ x.1 10 a s = v) ∨ ∃ m, (x.1 0 m 0 = nI 3 ∨ x.1 0 m 0 = nI 4) ∧ x.1 0 m 3 = nI s ∧ x.1 0 m 4 = b ∧ x.1 0 m 5 = v
def Ipr (n : Nat) (x : St) : Prop :=
  (∀ s b v v', Pr x s b v → Pr x s b v' → v = v') ∧
  (∀ s b v, Pr x s b v → ∃ a r, a < n ∧ r ≤ 1000 ∧ b = nI (r * n + a) ∧ b ≤ x.1 2 a s ∧ (x.1 1 a s = nI 1 → b ≠ x.1 2 a s)) ∧
  (∀ a s, a < n → x.1 1 a s = nI 1 → ∃ r, r ≤ 1000 ∧ x.1 2 a s = nI (r * n + a))
def Ival (x : St) : Prop := ∀ a s, 0 ≤ x.1 5 a s ∧ 0 ≤ x.1 6 a s ∧ 0 ≤ x.1 7 a s ∧ 0 ≤ x.1 10 a s ∧ 0 ≤ x.1 11 a s
def Ibest (x : St) : Prop := ∀ a s, (-1 ≤ x.1 4 a s) ∧ (x.1 1 a s ≠ 0 → x.1 5 a s = if x.1 4 a s < 0 then x.1 6 a s else x.1 7 a s) ∧ (x.1 9 a s < 0 → x.1 10 a s = 0)
def Ibit (x : St) : Prop := (∀ a s, ∃ k, k < 32 ∧ x.1 3 a s = nI k) ∧ ∀ a, x.1 13 a 0 = nI 0 ∨ x.1 13 a 0 = nI 1
def Inv (n S : Nat) (x : St) : Prop := Imsg n S x ∧ Ipr n x ∧ Ival x ∧ Ibest x ∧ Ibit x
