abbrev wX (q : Nat → Nat) (cI : ClassId) (n S P : Nat) (x : St) : va_W := wD q cI n S P (n * S) (nI (msk (col (x.1 13) 0) n)) (x.1 12 0 0) (x.1 12 0 1) (x.1 0) (cntx P x) (sq S (x.1 1)) (sq S (x.1 2)) (sq S (x.1 3)) (sq S (x.1 4)) (sq S (x.1 5)) (sq S (x.1 8)) (sq S (x.1 9)) (sq S (x.1 10)) (hq n S (x.2 0)) (sq S (x.1 11))
theorem wX_send {q : Nat → Nat} {cI : ClassId} {n S P : Nat} {y : St} {k s r sl b v o : Int32} (hk : k ≠ 0) (h : cntx P y < P) :
    wD q cI n S P (n * S) (nI (msk (col (y.1 13) 0) n)) (y.1 12 0 0) (y.1 12 0 1) (up7 (y.1 0) (lst (col (y.1 0) 0) P 0) k s r sl b v o) (cntx P y + 1) (sq S (y.1 1)) (sq S (y.1 2)) (sq S (y.1 3)) (sq S (y.1 4)) (sq S (y.1 5)) (sq S (y.1 8)) (sq S (y.1 9)) (sq S (y.1 10)) (hq n S (y.2 0)) (sq S (y.1 11))
    = wX q cI n S P (send1 P y k s r sl b v o) := by
  have e0 : (send1 P y k s r sl b v o).1 0 = up7 (y.1 0) (lst (col (y.1 0) 0) P 0) k s r sl b v o := put7_c
  have e : ∀ c, c ≠ 0 → (send1 P y k s r sl b v o).1 c = y.1 c := fun c hc => put7_o hc
  have e2 : (send1 P y k s r sl b v o).2 = y.2 := rfl
  simp only [wX, e0, e2, cnt_send hk h, e 1 (by decide), e 2 (by decide), e 3 (by decide), e 4 (by decide), e 5 (by decide), e 8 (by decide), e 9 (by decide), e 10 (by decide), e 11 (by decide), e 12 (by decide), e 13 (by decide)]
theorem fin2 {q : Nat → Nat} {cI : ClassId} {n S P : Nat} {p : Int32 × St} {r : Int32} {y : St} (h : p = (r, y)) : r = p.1 ∧ wX q cI n S P y = wX q cI n S P p.2 := by
  rw [h]; exact ⟨rfl, rfl⟩
theorem wX_learn {q : Nat → Nat} {cI : ClassId} {n S P : Nat} {y : St} {a t : Nat} {v : Int32} (ht : t < S) :
    wD q cI n S P (n * S) (nI (msk (col (y.1 13) 0) n)) (y.1 12 0 0) (y.1 12 0 1) (y.1 0) (cntx P y) (sq S (y.1 1)) (sq S (y.1 2)) (sq S (y.1 3)) (sq S (y.1 4)) (sq S (y.1 5)) (sq S (y.1 8)) (sq S (y.1 9)) (sq S (y.1 10)) (hq n S (y.2 0)) (if sq S (y.1 11) (a * S + t) = 0 then upd (sq S (y.1 11)) (a * S + t) v else sq S (y.1 11))
    = wX q cI n S P (sLearn y a t v) := by
  rw [sq_at ht, sq_up ht]
  unfold sLearn
  by_cases h : y.1 11 a t = 0
  · rw [if_pos h, if_pos h]; rfl
  · rw [if_neg h, if_neg h]
theorem wX_prom1 {q : Nat → Nat} {cI : ClassId} {n S P : Nat} {y : St} {a t : Nat} {sd v o : Int32} (ht : t < S) :
    wD q cI n S P (n * S) (nI (msk (col (y.1 13) 0) n)) (y.1 12 0 0) (y.1 12 0 1) (y.1 0) (cntx P y) (sq S (y.1 1)) (sq S (y.1 2)) (upd (sq S (y.1 3)) (a * S + t) (orb (sq S (y.1 3) (a * S + t)) sd)) (if sq S (y.1 4) (a * S + t) < o then upd (sq S (y.1 4)) (a * S + t) o else sq S (y.1 4)) (if sq S (y.1 4) (a * S + t) < o then upd (sq S (y.1 5)) (a * S + t) v else sq S (y.1 5)) (sq S (y.1 8)) (sq S (y.1 9)) (sq S (y.1 10)) (hq n S (y.2 0)) (sq S (y.1 11))
    = wX q cI n S P (sProm1 y a t sd v o) := by
  simp only [sq_at ht, sq_up ht]
  unfold sProm1
  by_cases h : y.1 4 a t < o
  · simp only [if_pos h]; rfl
  · simp only [if_neg h]; rfl
theorem wX_prom2 {q : Nat → Nat} {cI : ClassId} {n S P : Nat} {y : St} {a t : Nat} {sd v o : Int32} (ht : t < S) :
    wD q cI n S P (n * S) (nI (msk (col (y.1 13) 0) n)) (y.1 12 0 0) (y.1 12 0 1) (y.1 0) (cntx P y) (upd (sq S (y.1 1)) (a * S + t) (nI 2)) (sq S (y.1 2)) (upd (sq S (y.1 3)) (a * S + t) (orb (sq S (y.1 3) (a * S + t)) sd)) (if sq S (y.1 4) (a * S + t) < o then upd (sq S (y.1 4)) (a * S + t) o else sq S (y.1 4)) (if sq S (y.1 4) (a * S + t) < o then upd (sq S (y.1 5)) (a * S + t) v else sq S (y.1 5)) (sq S (y.1 8)) (sq S (y.1 9)) (sq S (y.1 10)) (hq n S (y.2 0)) (sq S (y.1 11))
    = wX q cI n S P (put (sProm1 y a t sd v o) 1 a t (nI 2)) := by
  simp only [sq_at ht, sq_up ht]
  unfold sProm1
  by_cases h : y.1 4 a t < o
  · simp only [if_pos h]; rfl
  · simp only [if_neg h]; rfl
theorem cnt_prom {P : Nat} {y : St} {a t : Nat} {sd v o w : Int32} : cntx P (put (sProm1 y a t sd v o) 1 a t w) = cntx P y := by
  unfold sProm1
  by_cases h : y.1 4 a t < o
  · rw [if_pos h]; rfl
  · rw [if_neg h]; rfl
theorem cntE_ext {f g : Nat → Int32} {b : Int32} : ∀ i, (∀ j, j < i → f j = g j) → cntE f b i = cntE g b i := by
  intro i
  induction i with
  | zero => intro _; rfl
  | succ i ih =>
    intro h
    unfold cntE
    rw [ih (fun j hj => h j (by omega)), h i (by omega)]
theorem hear_cnt {n S a t c : Nat} {h : Nat → Nat → Nat → Int32} {b : Int32} (hc : c < n) (ht : t < S) : cntE (fun i => upd (hq n S h) ((a * S + t) * n + c) b ((a * S + t) * n + i)) b n = cntE (up3 h a t c b a t) b n := by
  apply cntE_ext
  intro j hj
  rw [hq_up hc ht]
  exact hq_at hj ht
