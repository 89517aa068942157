theorem fin3 {qm : Nat → Nat} {cI cZ : ClassId} {n S P : Nat} {p : Int32 × St} {r : Int32} {y : St} (h : p = (r, y)) : r = p.1 ∧ wM qm cI cZ n S P y = wM qm cI cZ n S P p.2 := by
  rw [h]; exact ⟨rfl, rfl⟩
theorem ce_t {f : Nat → Int32} {b : Int32} {i : Nat} (h : ¬ f i = b) : nI (cntE f b i) = nI (cntE f b (i + 1)) := by
  show _ = nI (cntE f b i + _)
  rw [if_neg h]; rfl
theorem ce_f {f : Nat → Int32} {b : Int32} {i : Nat} (h : f i = b) : nI (cntE f b i + 1) = nI (cntE f b (i + 1)) := by
  show _ = nI (cntE f b i + _)
  rw [if_pos h]
theorem put_id {x : St} {c a s : Nat} {v : Int32} (h : x.1 c a s = v) : put x c a s v = x := by
  unfold put
  apply Prod.ext
  · funext c'
    by_cases q : c' = c
    · subst q; simp only [if_true]; rw [← h, up2_id]
    · simp only [if_neg q]
  · rfl
theorem learn0 {x : St} {a s : Nat} : sLearn x a s (nI 0) = x := by
  unfold sLearn
  by_cases q : x.1 11 a s = 0
  · rw [if_pos q]; exact put_id q
  · rw [if_neg q]
theorem wM_k0 {qm : Nat → Nat} {cI cZ : ClassId} {n S P : Nat} {x : St} {j : Nat} {dl lo : Int32} :
    wR qm cI cZ n S P (col (x.1 13) 0) (col (up2 (x.1 0) j 0 (nI 0)) 0) (col (x.1 0) 1) (col (x.1 0) 2) (col (x.1 0) 3) (col (x.1 0) 4) (col (x.1 0) 5) (col (x.1 0) 6)
      (sq 4 (x.1 2)) (sq 4 (x.1 1)) (sq 4 (x.1 6)) (sq 4 (x.1 3)) (sq 4 (x.1 4)) (sq 4 (x.1 7)) (sq 4 (x.1 8)) (sq 4 (x.1 9)) (sq 4 (x.1 10)) (hrm (x.2 0)) (hrm (x.2 1)) (sq 4 (x.1 11)) dl lo
    = wM qm cI cZ n S P (put (put (put x 0 j 0 (nI 0)) 12 0 0 dl) 12 0 1 lo) := by
  have e : ∀ k, k ≠ 0 → col (up2 (x.1 0) j 0 (nI 0)) k = col (x.1 0) k := fun k hk => col_o hk
  have e0 : (put (put (put x 0 j 0 (nI 0)) 12 0 0 dl) 12 0 1 lo).1 0 = up2 (x.1 0) j 0 (nI 0) := rfl
  simp only [wM, e0, e 1 (by decide), e 2 (by decide), e 3 (by decide), e 4 (by decide), e 5 (by decide), e 6 (by decide)]
  rfl
theorem put12_id {x : St} {j : Nat} {dl : Int32} : put (put (put x 0 j 0 (nI 0)) 12 0 0 dl) 12 0 1 (x.1 12 0 1) = put (put x 0 j 0 (nI 0)) 12 0 0 dl := put_id rfl
theorem put12_id2 {x : St} {j : Nat} {lo : Int32} : put (put (put x 0 j 0 (nI 0)) 12 0 0 (x.1 12 0 0)) 12 0 1 lo = put (put x 0 j 0 (nI 0)) 12 0 1 lo := by
  rw [show put (put x 0 j 0 (nI 0)) 12 0 0 (x.1 12 0 0) = put x 0 j 0 (nI 0) from put_id rfl]
theorem out_f {x : St} {j m k : Nat} (h : k ≠ 0) : (sOut x j).1 0 m k = x.1 0 m k := by
  show up2 (x.1 0) j 0 (nI 0) m k = _
  exact up2_n (fun q => h q.2)
