/-! What holds of every reached state -/
theorem put_at {x : St} {c a s c' a' s' : Nat} {v : Int32} : (put x c a s v).1 c' a' s' = if c' = c ∧ a' = a ∧ s' = s then v else x.1 c' a' s' := by
  by_cases h : c' = c
  · subst h
    rw [put_c]
    unfold up2
    by_cases h2 : a' = a ∧ s' = s
    · rw [if_pos h2, if_pos ⟨rfl, h2⟩]
    · rw [if_neg h2, if_neg (fun q => h2 q.2)]
  · rw [put_o h, if_neg (fun q => h q.1)]
theorem up7_n {g : Nat → Nat → Int32} {m m' j : Nat} {k s r sl b v o : Int32} (h : m' ≠ m) : up7 g m k s r sl b v o m' j = g m' j := by
  unfold up7
  simp only [up2_n (fun q => h q.1)]
theorem up7_s {g : Nat → Nat → Int32} {m : Nat} {k s r sl b v o : Int32} : up7 g m k s r sl b v o m 0 = k ∧ up7 g m k s r sl b v o m 1 = s ∧ up7 g m k s r sl b v o m 2 = r ∧ up7 g m k s r sl b v o m 3 = sl ∧ up7 g m k s r sl b v o m 4 = b ∧ up7 g m k s r sl b v o m 5 = v ∧ up7 g m k s r sl b v o m 6 = o := by
  refine ⟨?_, ?_, ?_, ?_, ?_, ?_, ?_⟩ <;> (unfold up7 up2; simp)
theorem col_up7 {g : Nat → Nat → Int32} {m : Nat} {k s r sl b v o : Int32} : col (up7 g m k s r sl b v o) 0 = upd (col g 0) m k := by
  funext i
  unfold upd
  by_cases h : i = m
  · subst h; rw [if_pos rfl]; exact up7_s.1
  · rw [if_neg h]; exact up7_n h
theorem cnt_send {P : Nat} {x : St} {k s r sl b v o : Int32} (hk : k ≠ 0) (h : cntx P x < P) : cntx P (send1 P x k s r sl b v o) = cntx P x + 1 := by
  unfold cntx send1
  rw [put7_c, col_up7]
  have hl : lst (col (x.1 0) 0) P 0 < P := lst_lt h
  exact cnt_set ((lst_spec _ P 0).2.2.2 (by omega)) hk P hl
theorem cnt_out {P : Nat} {x : St} {m : Nat} (hm : m < P) (h : x.1 0 m 0 ≠ 0) : cntx P (put x 0 m 0 (nI 0)) + 1 = cntx P x := by
  unfold cntx
  rw [put_c, ← col_up]
  exact cnt_clr (f := col (x.1 0) 0) (m := m) h P hm
theorem cnt_pos {P : Nat} {x : St} {m : Nat} (hm : m < P) (h : x.1 0 m 0 ≠ 0) : 1 ≤ cntx P x := by
  have := cnt_out hm h
  omega
theorem cnt_sendA {P : Nat} {x : St} {k s sl b v : Int32} (hk : k ≠ 0) : ∀ i, cntx P x + i ≤ P → cntx P (sendA P x k s sl b v i) = cntx P x + i := by
  intro i
  induction i with
  | zero => intro _; rfl
  | succ i ih =>
    intro h
    have h1 := ih (by omega)
    show cntx P (send1 P (sendA P x k s sl b v i) k s (nI i) sl b v (-1)) = _
    rw [cnt_send hk (by omega), h1]
    omega
/-- a message that can be sent -/
def vmsg (n S : Nat) (k s r sl v : Int32) : Prop := ∃ k' b a s' : Nat, 1 ≤ k' ∧ k' ≤ 5 ∧ b < n ∧ a < n ∧ s' < S ∧ k = nI k' ∧ s = nI b ∧ r = nI a ∧ sl = nI s' ∧ 0 ≤ v
def Imsg (n S : Nat) (x : St) : Prop := ∀ m, x.1 0 m 0 ≠ 0 → vmsg n S (x.1 0 m 0) (x.1 0 m 1) (x.1 0 m 2) (x.1 0 m 3) (x.1 0 m 5)
/-- the ballots that have a value -/
def Pr (x : St) (s : Nat) (b v : Int32) : Prop := s < 100 ∧ ((∃ a, x.1 9 a s = b ∧ 0 ≤ b ∧ x.1 10 a s = v) ∨ ∃ m, (x.1 0 m 0 = nI 3 ∨ x.1 0 m 0 = nI 4) ∧ x.1 0 m 3 = nI s ∧ x.1 0 m 4 = b ∧ x.1 0 m 5 = v)
def Ipr (n : Nat) (x : St) : Prop :=
  (∀ s b v v', Pr x s b v → Pr x s b v' → v = v') ∧
  (∀ s b v, Pr x s b v → ∃ a r, a < n ∧ r ≤ 1000 ∧ b = nI (r * n + a) ∧ b ≤ x.1 2 a s ∧ (x.1 1 a s = nI 1 → b ≠ x.1 2 a s)) ∧
  (∀ a s, a < n → x.1 1 a s = nI 1 → ∃ r, r ≤ 1000 ∧ x.1 2 a s = nI (r * n + a))
def Ival (x : St) : Prop := (∀ a s, 0 ≤ x.1 5 a s) ∧ (∀ a s, 0 ≤ x.1 6 a s) ∧ (∀ a s, 0 ≤ x.1 7 a s) ∧ (∀ a s, 0 ≤ x.1 10 a s) ∧ (∀ a s, 0 ≤ x.1 11 a s)
def Ibest (x : St) : Prop := (∀ a s, -1 ≤ x.1 4 a s) ∧ (∀ a s, x.1 1 a s ≠ 0 → x.1 5 a s = if x.1 4 a s < 0 then x.1 6 a s else x.1 7 a s) ∧ (∀ a s, x.1 9 a s < 0 → x.1 10 a s = 0)
def Ibit (x : St) : Prop := (∀ a s, ∃ k, k < 32 ∧ x.1 3 a s = nI k) ∧ ∀ a, x.1 13 a 0 = nI 0 ∨ x.1 13 a 0 = nI 1
def Inv (n S : Nat) (x : St) : Prop := Imsg n S x ∧ Ipr n x ∧ Ival x ∧ Ibest x ∧ Ibit x
theorem up2_all {f : Nat → Nat → Int32} {p : Int32 → Prop} {a s : Nat} {v : Int32} (h : ∀ a s, p (f a s)) (hv : p v) : ∀ a' s', p (up2 f a s v a' s') := by
  intro a' s'
  by_cases q : a' = a ∧ s' = s
  · unfold up2; rw [if_pos q]; exact hv
  · rw [up2_n q]; exact h a' s'
theorem vmsg_nz {n S : Nat} {k s r sl v : Int32} (h : vmsg n S k s r sl v) : k ≠ 0 := by
  obtain ⟨k', b, a, s', h1, h2, -, -, -, rfl, -⟩ := h
  exact nI_ne0 h1 (by omega)
theorem nI_inj {a b : Nat} (ha : a < 2 ^ 31) (hb : b < 2 ^ 31) (h : nI a = nI b) : a = b := (nI_eq ha hb).mp h
theorem own_u {n r a r' a' : Nat} (ha : a < n) (ha' : a' < n) (h : r * n + a = r' * n + a') : a = a' := by
  have h1 := (dv_at (a := r) ha).2
  have h2 := (dv_at (a := r') ha').2
  rw [h] at h1
  omega
theorem bal_lt {n r a : Nat} (hn : n ≤ 5) (ha : a < n) (hr : r ≤ 1000) : r * n + a < 2 ^ 31 := by
  have := Nat.mul_le_mul hr hn
  omega
/-! messages -/
theorem Imsg_c {n S : Nat} {x y : St} (e : y.1 0 = x.1 0) (h : Imsg n S x) : Imsg n S y := by
  unfold Imsg at *; rw [e]; exact h
theorem Imsg_7 {n S : Nat} {x : St} {m : Nat} {k s r sl b v o : Int32} (h : Imsg n S x) (hv : vmsg n S k s r sl v) : Imsg n S (put7 x m k s r sl b v o) := by
  intro m' hm'
  rw [put7_c] at hm' ⊢
  by_cases q : m' = m
  · subst q
    obtain ⟨e0, e1, e2, e3, -, e5, -⟩ := up7_s (g := x.1 0) (m := m') (k := k) (s := s) (r := r) (sl := sl) (b := b) (v := v) (o := o)
    rw [e0, e1, e2, e3, e5]; exact hv
  · rw [up7_n q] at hm'
    rw [up7_n q, up7_n q, up7_n q, up7_n q, up7_n q]
    exact h m' hm'
theorem Imsg_A {n S P : Nat} {x : St} {k s sl b v : Int32} (h : Imsg n S x) : ∀ i, (∀ j, j < i → vmsg n S k s (nI j) sl v) → Imsg n S (sendA P x k s sl b v i) := by
  intro i
  induction i with
  | zero => intro _; exact h
  | succ i ih => intro hv; exact Imsg_7 (ih (fun j hj => hv j (by omega))) (hv i (by omega))
theorem Imsg_o {n S : Nat} {x : St} {m : Nat} (h : Imsg n S x) : Imsg n S (put x 0 m 0 (nI 0)) := by
  intro m' hm'
  rw [put_c] at hm' ⊢
  by_cases q : m' = m
  · subst q
    rw [up2_s] at hm'
    exact absurd rfl hm'
  · have e : ∀ k, up2 (x.1 0) m 0 (nI 0) m' k = x.1 0 m' k := fun k => up2_n (fun z => q z.1)
    rw [e] at hm'
    rw [e, e, e, e, e]
    exact h m' hm'
theorem sendA_o {P : Nat} {x : St} {k s sl b v : Int32} {c : Nat} (hc : c ≠ 0) : ∀ i, (sendA P x k s sl b v i).1 c = x.1 c := by
  intro i
  induction i with
  | zero => rfl
  | succ i ih => exact (put7_o hc).trans ih
/-! pairs -/
theorem Pr_c {x y : St} {s : Nat} {b v : Int32} (e0 : y.1 0 = x.1 0) (e9 : y.1 9 = x.1 9) (e10 : y.1 10 = x.1 10) (h : Pr y s b v) : Pr x s b v := by
  unfold Pr at *; rw [e0, e9, e10] at h; exact h
theorem Pr_7 {x : St} {m : Nat} {k s r sl b v o : Int32} {s' : Nat} {b' v' : Int32} (h : Pr (put7 x m k s r sl b v o) s' b' v') : Pr x s' b' v' ∨ (s' < 100 ∧ (k = nI 3 ∨ k = nI 4) ∧ sl = nI s' ∧ b = b' ∧ v = v') := by
  unfold Pr at h
  rw [put7_c, put7_o (by decide), put7_o (by decide)] at h
  rcases h with ⟨hs, h | ⟨m', h1, h2, h3, h4⟩⟩
  · exact Or.inl ⟨hs, Or.inl h⟩
  · by_cases q : m' = m
    · subst q
      obtain ⟨e0, -, -, e3, e4, e5, -⟩ := up7_s (g := x.1 0) (m := m') (k := k) (s := s) (r := r) (sl := sl) (b := b) (v := v) (o := o)
      rw [e0] at h1; rw [e3] at h2; rw [e4] at h3; rw [e5] at h4
      exact Or.inr ⟨hs, h1, h2, h3, h4⟩
    · rw [up7_n q] at h1 h2 h3 h4
      exact Or.inl ⟨hs, Or.inr ⟨m', h1, h2, h3, h4⟩⟩
theorem Pr_A {P : Nat} {x : St} {k s sl b v : Int32} {s' : Nat} {b' v' : Int32} : ∀ i, Pr (sendA P x k s sl b v i) s' b' v' → Pr x s' b' v' ∨ (s' < 100 ∧ (k = nI 3 ∨ k = nI 4) ∧ sl = nI s' ∧ b = b' ∧ v = v') := by
  intro i
  induction i with
  | zero => intro h; exact Or.inl h
  | succ i ih =>
    intro h
    rcases Pr_7 h with h | h
    · exact ih h
    · exact Or.inr h
theorem Pr_o {x : St} {m : Nat} {s : Nat} {b v : Int32} (h : Pr (put x 0 m 0 (nI 0)) s b v) : Pr x s b v := by
  unfold Pr at h
  rw [put_c, put_o (by decide), put_o (by decide)] at h
  rcases h with ⟨hs, h | ⟨m', h1, h2, h3, h4⟩⟩
  · exact ⟨hs, Or.inl h⟩
  · by_cases q : m' = m
    · subst q
      rw [up2_s] at h1
      exact absurd h1 (by decide)
    · have e : ∀ k, up2 (x.1 0) m 0 (nI 0) m' k = x.1 0 m' k := fun k => up2_n (fun z => q z.1)
      rw [e] at h1 h2 h3 h4
      exact ⟨hs, Or.inr ⟨m', h1, h2, h3, h4⟩⟩
theorem Ipr_add {n t : Nat} {x z : St} {E : Prop} {b0 v0 : Int32} (h : Ipr n x) (hp : ∀ s b v, Pr z s b v → Pr x s b v ∨ (E ∧ s = t ∧ b = b0 ∧ v = v0)) (h2 : z.1 2 = x.1 2) (h1 : ∀ a s, z.1 1 a s = nI 1 → x.1 1 a s = nI 1)
    (hE : E → (∀ v, Pr x t b0 v → v = v0) ∧ ∃ a r, a < n ∧ r ≤ 1000 ∧ b0 = nI (r * n + a) ∧ b0 ≤ x.1 2 a t ∧ (z.1 1 a t = nI 1 → b0 ≠ x.1 2 a t)) : Ipr n z := by
  obtain ⟨u1, u2, u3⟩ := h
  refine ⟨fun s b v v' ha hb => ?_, fun s b v ha => ?_, fun a s ha hs => ?_⟩
  · rcases hp s b v ha with ha | ⟨e, rfl, rfl, rfl⟩ <;> rcases hp _ _ v' hb with hb | ⟨e', h3, h4, h5⟩
    · exact u1 s b v v' ha hb
    · subst h3; subst h4; subst h5; exact (hE e').1 v ha
    · exact ((hE e).1 v' hb).symm
    · exact h5.symm
  · rw [h2]
    rcases hp s b v ha with ha | ⟨e, rfl, rfl, rfl⟩
    · obtain ⟨a, r, g1, g2, g3, g4, g5⟩ := u2 s b v ha
      exact ⟨a, r, g1, g2, g3, g4, fun q => g5 (h1 a s q)⟩
    · exact (hE e).2
  · rw [h2]
    exact u3 a s ha (h1 a s hs)
theorem Ipr_sub {n : Nat} {x z : St} (h : Ipr n x) (hp : ∀ s b v, Pr z s b v → Pr x s b v) (h2 : z.1 2 = x.1 2) (h1 : ∀ a s, z.1 1 a s = nI 1 → x.1 1 a s = nI 1) : Ipr n z :=
  Ipr_add (E := False) (t := 0) (b0 := 0) (v0 := 0) h (fun s b v q => Or.inl (hp s b v q)) h2 h1 (fun q => q.elim)
/-! a message sent leaves the rest -/
theorem Ival_c {x y : St} (e : ∀ c, c ≠ 0 → y.1 c = x.1 c) (h : Ival x) : Ival y := by
  unfold Ival at *; rw [e 5 (by decide), e 6 (by decide), e 7 (by decide), e 10 (by decide), e 11 (by decide)]; exact h
theorem Ibest_c {x y : St} (e : ∀ c, c ≠ 0 → y.1 c = x.1 c) (h : Ibest x) : Ibest y := by
  unfold Ibest at *; rw [e 4 (by decide), e 1 (by decide), e 5 (by decide), e 6 (by decide), e 7 (by decide), e 9 (by decide), e 10 (by decide)]; exact h
theorem Ibit_c {x y : St} (e : ∀ c, c ≠ 0 → y.1 c = x.1 c) (h : Ibit x) : Ibit y := by
  unfold Ibit at *; rw [e 3 (by decide), e 13 (by decide)]; exact h
/-- a message whose pair is known -/
theorem Inv_7 {n S : Nat} {x : St} {m : Nat} {k s r sl b v o : Int32} (h : Inv n S x) (hv : vmsg n S k s r sl v) (hp : ∀ t, t < 100 → (k = nI 3 ∨ k = nI 4) → sl = nI t → Pr x t b v) : Inv n S (put7 x m k s r sl b v o) := by
  obtain ⟨h1, h2, h3, h4, h5⟩ := h
  have e : ∀ c, c ≠ 0 → (put7 x m k s r sl b v o).1 c = x.1 c := fun c hc => put7_o hc
  refine ⟨Imsg_7 h1 hv, Ipr_sub h2 (fun s' b' v' q => ?_) (e 2 (by decide)) (fun a s q => by rw [e 1 (by decide)] at q; exact q), Ival_c e h3, Ibest_c e h4, Ibit_c e h5⟩
  rcases Pr_7 q with q | ⟨g0, g1, g2, g3, g4⟩
  · exact q
  · subst g3; subst g4; exact hp s' g0 g1 g2
theorem Inv_A {n S P : Nat} {x : St} {k s sl b v : Int32} (h : Inv n S x) (i : Nat) (hv : ∀ j, j < i → vmsg n S k s (nI j) sl v) (hp : ∀ t, t < 100 → (k = nI 3 ∨ k = nI 4) → sl = nI t → Pr x t b v) : Inv n S (sendA P x k s sl b v i) := by
  obtain ⟨h1, h2, h3, h4, h5⟩ := h
  have e : ∀ c, c ≠ 0 → (sendA P x k s sl b v i).1 c = x.1 c := fun c hc => sendA_o hc i
  refine ⟨Imsg_A h1 i hv, Ipr_sub h2 (fun s' b' v' q => ?_) (e 2 (by decide)) (fun a s q => by rw [e 1 (by decide)] at q; exact q), Ival_c e h3, Ibest_c e h4, Ibit_c e h5⟩
  rcases Pr_A i q with q | ⟨g0, g1, g2, g3, g4⟩
  · exact q
  · subst g3; subst g4; exact hp s' g0 g1 g2
theorem Inv_o {n S : Nat} {x : St} {m : Nat} (h : Inv n S x) : Inv n S (put x 0 m 0 (nI 0)) := by
  obtain ⟨h1, h2, h3, h4, h5⟩ := h
  have e : ∀ c, c ≠ 0 → (put x 0 m 0 (nI 0)).1 c = x.1 c := fun c hc => put_o hc
  exact ⟨Imsg_o h1, Ipr_sub h2 (fun s' b' v' q => Pr_o q) (e 2 (by decide)) (fun a s q => by rw [e 1 (by decide)] at q; exact q), Ival_c e h3, Ibest_c e h4, Ibit_c e h5⟩
/-- parts that no promise reads: 8, 12 -/
theorem Inv_f {n S : Nat} {x y : St} (e : ∀ c, c ≠ 8 → c ≠ 12 → y.1 c = x.1 c) (h : Inv n S x) : Inv n S y := by
  unfold Inv Imsg Ipr Pr Ival Ibest Ibit at *
  rw [e 0 (by decide) (by decide), e 1 (by decide) (by decide), e 2 (by decide) (by decide), e 3 (by decide) (by decide), e 4 (by decide) (by decide), e 5 (by decide) (by decide), e 6 (by decide) (by decide), e 7 (by decide) (by decide), e 9 (by decide) (by decide), e 10 (by decide) (by decide), e 11 (by decide) (by decide), e 13 (by decide) (by decide)]
  exact h
theorem Inv_put8 {n S : Nat} {x : St} {a s : Nat} {v : Int32} (h : Inv n S x) : Inv n S (put x 8 a s v) := Inv_f (fun c h1 _ => put_o h1) h
theorem Inv_put12 {n S : Nat} {x : St} {a s : Nat} {v : Int32} (h : Inv n S x) : Inv n S (put x 12 a s v) := Inv_f (fun c _ h1 => put_o h1) h
theorem Inv_pth {n S : Nat} {x : St} {c a s b : Nat} {v : Int32} (h : Inv n S x) : Inv n S (pth x c a s b v) := Inv_f (fun _ _ _ => rfl) h
theorem Inv_out {n S : Nat} {x : St} {m : Nat} (h : Inv n S x) : Inv n S (sOut x m) := Inv_put12 (Inv_o h)
theorem Inv_lost {n S : Nat} {x : St} (h : Inv n S x) : Inv n S (sLost x) := Inv_put12 h
theorem Inv_learn {n S : Nat} {x : St} {a s : Nat} {v : Int32} (h : Inv n S x) (hv : 0 ≤ v) : Inv n S (sLearn x a s v) := by
  unfold sLearn
  by_cases q : x.1 11 a s = 0
  · rw [if_pos q]
    obtain ⟨h1, h2, h3, h4, h5⟩ := h
    have e : ∀ c, c ≠ 11 → (put x 11 a s v).1 c = x.1 c := fun c hc => put_o hc
    refine ⟨Imsg_c (e 0 (by decide)) h1, Ipr_sub h2 (fun _ _ _ q => Pr_c (e 0 (by decide)) (e 9 (by decide)) (e 10 (by decide)) q) (e 2 (by decide)) (fun a s q => by rw [e 1 (by decide)] at q; exact q), ?_, ?_, ?_⟩
    · unfold Ival at *; rw [e 5 (by decide), e 6 (by decide), e 7 (by decide), e 10 (by decide), put_c]
      exact ⟨h3.1, h3.2.1, h3.2.2.1, h3.2.2.2.1, up2_all h3.2.2.2.2 hv⟩
    · unfold Ibest at *; rw [e 4 (by decide), e 1 (by decide), e 5 (by decide), e 6 (by decide), e 7 (by decide), e 9 (by decide), e 10 (by decide)]; exact h4
    · unfold Ibit at *; rw [e 3 (by decide), e 13 (by decide)]; exact h5
  · rw [if_neg q]; exact h
theorem Inv_hear {n S : Nat} {x : St} {a s c : Nat} {b v : Int32} (h : Inv n S x) (hv : 0 ≤ v) : Inv n S (sHear n x a s c b v) := by
  unfold sHear
  by_cases q : x.2 0 a s c < b
  · rw [if_pos q]
    by_cases q2 : n < 2 * cntE (up3 (x.2 0) a s c b a s) b n
    · rw [if_pos q2]; exact Inv_learn (Inv_pth (Inv_pth h)) hv
    · rw [if_neg q2]; exact Inv_pth (Inv_pth h)
  · rw [if_neg q]; exact h
