abbrev hrm (h : Nat → Nat → Nat → Int32) : Nat → Int32 := hr h
abbrev wR (qm : Nat → Nat) (cI cZ : ClassId) (n S P : Nat) (dn k0 k1 k2 k3 k4 k5 k6 la ph wi pm be bv pd ac av hb hv de : Nat → Int32) (dl lo : Int32) : va_W := [(qm 0, .inr (5, [.int (nI n), .int (nI S), .int (nI P), .ref (qm 1), .ref (qm 2), .ref (qm 3), .ref (qm 4), .ref (qm 5), .ref (qm 6), .ref (qm 7), .ref (qm 8), .ref (qm 9), .ref (qm 10), .ref (qm 11), .ref (qm 12), .ref (qm 13), .ref (qm 14), .ref (qm 15), .ref (qm 16), .ref (qm 17), .ref (qm 18), .ref (qm 19), .ref (qm 20), .int dl, .int lo])), (qm 1, .inl (cZ, 5, .inl dn)), (qm 2, .inl (cI, 64, .inl k0)), (qm 3, .inl (cI, 64, .inl k1)), (qm 4, .inl (cI, 64, .inl k2)), (qm 5, .inl (cI, 64, .inl k3)), (qm 6, .inl (cI, 64, .inl k4)), (qm 7, .inl (cI, 64, .inl k5)), (qm 8, .inl (cI, 64, .inl k6)), (qm 9, .inl (cI, 20, .inl la)), (qm 10, .inl (cI, 20, .inl ph)), (qm 11, .inl (cI, 20, .inl wi)), (qm 12, .inl (cI, 20, .inl pm)), (qm 13, .inl (cI, 20, .inl be)), (qm 14, .inl (cI, 20, .inl bv)), (qm 15, .inl (cI, 20, .inl pd)), (qm 16, .inl (cI, 20, .inl ac)), (qm 17, .inl (cI, 20, .inl av)), (qm 18, .inl (cI, 100, .inl hb)), (qm 19, .inl (cI, 100, .inl hv)), (qm 20, .inl (cI, 20, .inl de))]
abbrev wM (qm : Nat → Nat) (cI cZ : ClassId) (n S P : Nat) (x : St) : va_W := wR qm cI cZ n S P (col (x.1 13) 0) (col (x.1 0) 0) (col (x.1 0) 1) (col (x.1 0) 2) (col (x.1 0) 3) (col (x.1 0) 4) (col (x.1 0) 5) (col (x.1 0) 6) (sq 4 (x.1 2)) (sq 4 (x.1 1)) (sq 4 (x.1 6)) (sq 4 (x.1 3)) (sq 4 (x.1 4)) (sq 4 (x.1 7)) (sq 4 (x.1 8)) (sq 4 (x.1 9)) (sq 4 (x.1 10)) (hrm (x.2 0)) (hrm (x.2 1)) (sq 4 (x.1 11)) (x.1 12 0 0) (x.1 12 0 1)
theorem kpos {n S : Nat} {x : St} {j : Nat} (hM : Imsg n S x) (h : x.1 0 j 0 ≠ 0) : ¬ x.1 0 j 0 ≤ 0 := by
  obtain ⟨k, b, a, t, h1, h2, -, -, -, hk, -⟩ := hM j h
  rw [hk]
  exact nI_nle h1 (by omega)
theorem emp_t {f : Nat → Int32} {i : Nat} (h : ¬ f i = 0) : i - cnt f i = i + 1 - cnt f (i + 1) := by
  show _ = i + 1 - (cnt f i + _)
  rw [if_neg h]; omega
theorem emp_f {f : Nat → Int32} {i : Nat} (h : f i = 0) : i - cnt f i + 1 = i + 1 - cnt f (i + 1) := by
  have := cnt_le f i
  show _ = i + 1 - (cnt f i + _)
  rw [if_pos h]; omega
def popi (k : Nat) : Nat → Nat
  | 0 => 0
  | i + 1 => popi k i + k / 2 ^ i % 2
theorem popi_fin : ∀ k, k < 32 → popi k 5 = popn k := by decide +kernel
theorem up2_id {f : Nat → Nat → Int32} {a s : Nat} : up2 f a s (f a s) = f := by
  funext a' s'
  unfold up2
  by_cases h : a' = a ∧ s' = s
  · rw [if_pos h, h.1, h.2]
  · rw [if_neg h]
theorem up7_col {g : Nat → Nat → Int32} {m : Nat} {k s r sl b v o : Int32} : col (up7 g m k s r sl b v o) 0 = col (up2 g m 0 k) 0 ∧ col (up7 g m k s r sl b v o) 1 = col (up2 g m 1 s) 1 ∧ col (up7 g m k s r sl b v o) 2 = col (up2 g m 2 r) 2 ∧ col (up7 g m k s r sl b v o) 3 = col (up2 g m 3 sl) 3 ∧ col (up7 g m k s r sl b v o) 4 = col (up2 g m 4 b) 4 ∧ col (up7 g m k s r sl b v o) 5 = col (up2 g m 5 v) 5 ∧ col (up7 g m k s r sl b v o) 6 = col (up2 g m 6 o) 6 := by
  refine ⟨?_, ?_, ?_, ?_, ?_, ?_, ?_⟩ <;> (funext i; unfold col up7 up2; by_cases h : i = m <;> simp [h])
theorem wM_send {qm : Nat → Nat} {cI cZ : ClassId} {n S P : Nat} {x : St} {k s r sl b v o : Int32} :
    wR qm cI cZ n S P (col (x.1 13) 0) (col (up2 (x.1 0) (lst (col (x.1 0) 0) P 0) 0 k) 0) (col (up2 (x.1 0) (lst (col (x.1 0) 0) P 0) 1 s) 1) (col (up2 (x.1 0) (lst (col (x.1 0) 0) P 0) 2 r) 2) (col (up2 (x.1 0) (lst (col (x.1 0) 0) P 0) 3 sl) 3) (col (up2 (x.1 0) (lst (col (x.1 0) 0) P 0) 4 b) 4) (col (up2 (x.1 0) (lst (col (x.1 0) 0) P 0) 5 v) 5) (col (up2 (x.1 0) (lst (col (x.1 0) 0) P 0) 6 o) 6)
      (sq 4 (x.1 2)) (sq 4 (x.1 1)) (sq 4 (x.1 6)) (sq 4 (x.1 3)) (sq 4 (x.1 4)) (sq 4 (x.1 7)) (sq 4 (x.1 8)) (sq 4 (x.1 9)) (sq 4 (x.1 10)) (hrm (x.2 0)) (hrm (x.2 1)) (sq 4 (x.1 11)) (x.1 12 0 0) (x.1 12 0 1)
    = wM qm cI cZ n S P (send1 P x k s r sl b v o) := by
  have e0 : (send1 P x k s r sl b v o).1 0 = up7 (x.1 0) (lst (col (x.1 0) 0) P 0) k s r sl b v o := put7_c
  have e : ∀ c, c ≠ 0 → (send1 P x k s r sl b v o).1 c = x.1 c := fun c hc => put7_o hc
  have e2 : (send1 P x k s r sl b v o).2 = x.2 := rfl
  obtain ⟨u0, u1, u2, u3, u4, u5, u6⟩ := up7_col (g := x.1 0) (m := lst (col (x.1 0) 0) P 0) (k := k) (s := s) (r := r) (sl := sl) (b := b) (v := v) (o := o)
  simp only [wM, e0, e2, u0, u1, u2, u3, u4, u5, u6, e 1 (by decide), e 2 (by decide), e 3 (by decide), e 4 (by decide), e 6 (by decide), e 7 (by decide), e 8 (by decide), e 9 (by decide), e 10 (by decide), e 11 (by decide), e 12 (by decide), e 13 (by decide)]
