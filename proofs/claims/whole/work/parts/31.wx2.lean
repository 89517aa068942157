theorem clr_0 {x : St} {a : Nat} : clr x a 0 = x := by
  unfold clr
  apply Prod.ext
  · funext c a' s'; simp
  · funext c a' s' b'; simp
theorem clr_o {x : St} {a i c : Nat} (h1 : c ≠ 1) (h3 : c ≠ 3) (h4 : c ≠ 4) (h7 : c ≠ 7) (h11 : c ≠ 11) : (clr x a i).1 c = x.1 c := by
  funext a' s'
  simp [clr, h1, h3, h4, h7, h11]
theorem clr_u {x : St} {a i c : Nat} {v : Int32} (h : ∀ a' s' j, (clr x a j).1 c a' s' = if a' = a ∧ s' < j then v else x.1 c a' s') : up2 ((clr x a i).1 c) a i v = (clr x a (i + 1)).1 c := by
  funext a' s'
  unfold up2
  rw [h, h]
  by_cases q : a' = a ∧ s' = i
  · rw [if_pos q, if_pos (by omega)]
  · rw [if_neg q]
    by_cases q2 : a' = a ∧ s' < i
    · rw [if_pos q2, if_pos (by omega)]
    · rw [if_neg q2, if_neg (by omega)]
theorem clr_h {n S a i : Nat} {x : St} (hn : 1 ≤ n) (hi : i < S) : fillr (hq n S ((clr x a i).2 0)) ((a * S + i) * n) (-1) n = hq n S ((clr x a (i + 1)).2 0) := by
  funext j
  rw [fillr_at]
  unfold hq
  have e : ∀ k a' s' b', (clr x a k).2 0 a' s' b' = if a' = a ∧ s' < k then -1 else x.2 0 a' s' b' := fun k a' s' b' => by simp [clr]
  rw [e, e]
  have hdm := Nat.div_add_mod' j n
  have hml := Nat.mod_lt j (show n > 0 by omega)
  have hdm2 := Nat.div_add_mod' (j / n) S
  by_cases q : (a * S + i) * n ≤ j ∧ j < (a * S + i) * n + n
  · have hd : j / n = a * S + i := by
      have h1 : (a * S + i) * n / n = a * S + i := Nat.mul_div_cancel _ (by omega)
      have h2 : ((a * S + i) * n + (j - (a * S + i) * n)) / n = a * S + i := (dv_at (by omega)).1
      rw [show (a * S + i) * n + (j - (a * S + i) * n) = j by omega] at h2
      exact h2
    rw [if_pos q, hd, (dv_at hi).1, (dv_at hi).2, if_pos ⟨rfl, by omega⟩]
  · rw [if_neg q]
    by_cases q2 : j / n / S = a ∧ j / n % S < i
    · rw [if_pos q2, if_pos ⟨q2.1, by omega⟩]
    · rw [if_neg q2]
      by_cases q3 : j / n / S = a ∧ j / n % S < i + 1
      · exfalso
        apply q
        have : j / n % S = i := by omega
        rw [this, q3.1] at hdm2
        rw [hdm2]
        omega
      · rw [if_neg q3]
theorem wX_clr {q : Nat → Nat} {cI : ClassId} {n S P a i : Nat} {x : St} (hn : 1 ≤ n) (hi : i < S) :
    wD q cI n S P (n * S) (nI (msk (col ((clr x a i).1 13) 0) n)) ((clr x a i).1 12 0 0) ((clr x a i).1 12 0 1) ((clr x a i).1 0) (cntx P (clr x a i)) (upd (sq S ((clr x a i).1 1)) (a * S + i) (nI 0)) (sq S ((clr x a i).1 2)) (upd (sq S ((clr x a i).1 3)) (a * S + i) (nI 0)) (upd (sq S ((clr x a i).1 4)) (a * S + i) (-1)) (sq S ((clr x a i).1 5)) (sq S ((clr x a i).1 8)) (sq S ((clr x a i).1 9)) (sq S ((clr x a i).1 10)) (fillr (hq n S ((clr x a i).2 0)) ((a * S + i) * n) (-1) n) (upd (sq S ((clr x a i).1 11)) (a * S + i) (nI 0))
    = wX q cI n S P (clr x a (i + 1)) := by
  have e : ∀ c, c ≠ 1 → c ≠ 3 → c ≠ 4 → c ≠ 7 → c ≠ 11 → (clr x a i).1 c = (clr x a (i + 1)).1 c := fun c h1 h3 h4 h7 h11 => by rw [clr_o h1 h3 h4 h7 h11, clr_o h1 h3 h4 h7 h11]
  have e0 : cntx P (clr x a i) = cntx P (clr x a (i + 1)) := by unfold cntx; rw [e 0 (by decide) (by decide) (by decide) (by decide) (by decide)]
  rw [sq_up hi, sq_up hi, sq_up hi, sq_up hi, clr_h hn hi, e0, e 0 (by decide) (by decide) (by decide) (by decide) (by decide), e 2 (by decide) (by decide) (by decide) (by decide) (by decide), e 5 (by decide) (by decide) (by decide) (by decide) (by decide), e 8 (by decide) (by decide) (by decide) (by decide) (by decide), e 9 (by decide) (by decide) (by decide) (by decide) (by decide), e 10 (by decide) (by decide) (by decide) (by decide) (by decide), e 12 (by decide) (by decide) (by decide) (by decide) (by decide), e 13 (by decide) (by decide) (by decide) (by decide) (by decide)]
  rw [clr_u (c := 1) (v := nI 0) (fun a' s' j => by simp [clr]), clr_u (c := 3) (v := nI 0) (fun a' s' j => by simp [clr]), clr_u (c := 4) (v := -1) (fun a' s' j => by simp [clr]), clr_u (c := 11) (v := nI 0) (fun a' s' j => by simp [clr])]
theorem back_o {x : St} {a c : Nat} (h1 : c ≠ 1) (h3 : c ≠ 3) (h4 : c ≠ 4) (h7 : c ≠ 7) (h11 : c ≠ 11) : (sBack x a).1 c = x.1 c := by
  funext a' s'
  simp [sBack, h1, h3, h4, h7, h11]
theorem back_13 {x : St} {a : Nat} : (sBack x a).1 13 = x.1 13 := back_o (by decide) (by decide) (by decide) (by decide) (by decide)
theorem back_c {x : St} {a S a' s' : Nat} (c : Nat) (h : s' < S) : (clr x a S).1 c a' s' = (sBack x a).1 c a' s' := by
  simp only [clr, sBack]
  by_cases q : a' = a
  · subst q
    by_cases q2 : c = 1 ∨ c = 3 ∨ c = 7 ∨ c = 11
    · simp [q2, h]
    · by_cases q3 : c = 4
      · simp [q3, h]
      · simp [q2, q3]
  · simp [q]
theorem wX_back {q : Nat → Nat} {cI : ClassId} {n S P a : Nat} {x : St} (hn : 1 ≤ n) (hS : 1 ≤ S) : wX q cI n S P (clr x a S) = wX q cI n S P (sBack x a) := by
  have e : ∀ c, sq S ((clr x a S).1 c) = sq S ((sBack x a).1 c) := fun c => sq_ext (by omega) (fun a' s' h => back_c c h)
  have o : ∀ c, c ≠ 1 → c ≠ 3 → c ≠ 4 → c ≠ 7 → c ≠ 11 → (clr x a S).1 c = (sBack x a).1 c := fun c h1 h3 h4 h7 h11 => by rw [clr_o h1 h3 h4 h7 h11, back_o h1 h3 h4 h7 h11]
  have e0 : cntx P (clr x a S) = cntx P (sBack x a) := by unfold cntx; rw [o 0 (by decide) (by decide) (by decide) (by decide) (by decide)]
  have eh : hq n S ((clr x a S).2 0) = hq n S ((sBack x a).2 0) := by
    funext j
    unfold hq
    have := Nat.mod_lt (j / n) (show S > 0 by omega)
    simp only [clr, sBack]
    by_cases z : j / n / S = a
    · simp [z, this]
    · simp [z]
  simp only [wX, e, eh, e0, o 0 (by decide) (by decide) (by decide) (by decide) (by decide), o 12 (by decide) (by decide) (by decide) (by decide) (by decide), o 13 (by decide) (by decide) (by decide) (by decide) (by decide)]
