theorem le0 {v : Int32} (h1 : 0 ≤ v) (h2 : v ≤ 0) : v = 0 := Int32.le_antisymm h2 h1
theorem mk_f {f : Nat → Int32} {i : Nat} (h : ¬ f i = 0) : nI (msk f i) = nI (msk f (i + 1)) := by
  show _ = nI (msk f i + _)
  rw [if_neg h]; rfl
theorem mk_t {f : Nat → Int32} {i : Nat} (h : f i = 0) (hi : i < 5) : nI (msk f i) ||| (nI 1 <<< (nI i &&& 31)) = nI (msk f (i + 1)) := by
  rw [set_fin _ (msk_32 f (by omega)) i hi (by rw [Nat.div_eq_of_lt (msk_lt f i)])]
  show _ = nI (msk f i + _)
  rw [if_pos h]
/-- node a comes back, in the order of the reference: slots below i cleared, what is heard below k of its twenty places -/
def rst (x : St) (a i k : Nat) : St :=
  (fun c a' s' => if a' = a ∧ s' < i then (if c = 1 ∨ c = 3 ∨ c = 7 ∨ c = 11 then nI 0 else if c = 4 then -1 else x.1 c a' s') else x.1 c a' s',
   fun c a' s' b' => if a' = a ∧ 5 * s' + b' < k ∧ b' < 5 then (if c = 0 then -1 else nI 0) else x.2 c a' s' b')
theorem rst_0 {x : St} {a : Nat} : rst x a 0 0 = x := by
  unfold rst
  apply Prod.ext
  · funext c a' s'; simp
  · funext c a' s' b'; simp
theorem rst_o {x : St} {a i k c : Nat} (h1 : c ≠ 1) (h3 : c ≠ 3) (h4 : c ≠ 4) (h7 : c ≠ 7) (h11 : c ≠ 11) : (rst x a i k).1 c = x.1 c := by
  funext a' s'
  simp [rst, h1, h3, h4, h7, h11]
theorem rst_u {x : St} {a i c : Nat} {v : Int32} (h : ∀ a' s' j, (rst x a j 0).1 c a' s' = if a' = a ∧ s' < j then v else x.1 c a' s') : up2 ((rst x a i 0).1 c) a i v = (rst x a (i + 1) 0).1 c := by
  funext a' s'
  unfold up2
  rw [h, h]
  by_cases q : a' = a ∧ s' = i
  · rw [if_pos q, if_pos (by omega)]
  · rw [if_neg q]
    by_cases q2 : a' = a ∧ s' < i
    · rw [if_pos q2, if_pos (by omega)]
    · rw [if_neg q2, if_neg (by omega)]
theorem rst_a {qm : Nat → Nat} {cI cZ : ClassId} {n S P a i : Nat} {x : St} :
    wR qm cI cZ n S P (col ((rst x a i 0).1 13) 0) (col ((rst x a i 0).1 0) 0) (col ((rst x a i 0).1 0) 1) (col ((rst x a i 0).1 0) 2) (col ((rst x a i 0).1 0) 3) (col ((rst x a i 0).1 0) 4) (col ((rst x a i 0).1 0) 5) (col ((rst x a i 0).1 0) 6)
      (sq 4 ((rst x a i 0).1 2)) (sq 4 (up2 ((rst x a i 0).1 1) a i (nI 0))) (sq 4 ((rst x a i 0).1 6)) (sq 4 (up2 ((rst x a i 0).1 3) a i (nI 0))) (sq 4 (up2 ((rst x a i 0).1 4) a i (-1))) (sq 4 (up2 ((rst x a i 0).1 7) a i (nI 0))) (sq 4 ((rst x a i 0).1 8)) (sq 4 ((rst x a i 0).1 9)) (sq 4 ((rst x a i 0).1 10)) (hrm ((rst x a i 0).2 0)) (hrm ((rst x a i 0).2 1)) (sq 4 (up2 ((rst x a i 0).1 11) a i (nI 0))) ((rst x a i 0).1 12 0 0) ((rst x a i 0).1 12 0 1)
    = wM qm cI cZ n S P (rst x a (i + 1) 0) := by
  have e : ∀ c, c ≠ 1 → c ≠ 3 → c ≠ 4 → c ≠ 7 → c ≠ 11 → (rst x a i 0).1 c = (rst x a (i + 1) 0).1 c := fun c h1 h3 h4 h7 h11 => by rw [rst_o h1 h3 h4 h7 h11, rst_o h1 h3 h4 h7 h11]
  have e2 : (rst x a i 0).2 = (rst x a (i + 1) 0).2 := rfl
  rw [e2, e 0 (by decide) (by decide) (by decide) (by decide) (by decide), e 2 (by decide) (by decide) (by decide) (by decide) (by decide), e 6 (by decide) (by decide) (by decide) (by decide) (by decide), e 8 (by decide) (by decide) (by decide) (by decide) (by decide), e 9 (by decide) (by decide) (by decide) (by decide) (by decide), e 10 (by decide) (by decide) (by decide) (by decide) (by decide), e 12 (by decide) (by decide) (by decide) (by decide) (by decide), e 13 (by decide) (by decide) (by decide) (by decide) (by decide)]
  rw [rst_u (c := 1) (v := nI 0) (fun a' s' j => by simp [rst]), rst_u (c := 3) (v := nI 0) (fun a' s' j => by simp [rst]), rst_u (c := 4) (v := -1) (fun a' s' j => by simp [rst]), rst_u (c := 7) (v := nI 0) (fun a' s' j => by simp [rst]), rst_u (c := 11) (v := nI 0) (fun a' s' j => by simp [rst])]
theorem rst_h {x : St} {a i c : Nat} {v : Int32} (hi : i < 20) (hv : (if c = 0 then (-1 : Int32) else nI 0) = v) : upd (hrm ((rst x a 4 i).2 c)) (20 * a + i) v = hrm ((rst x a 4 (i + 1)).2 c) := by
  funext j
  unfold upd hrm hr
  simp only [rst, hv]
  by_cases q : j = 20 * a + i
  · rw [if_pos q, if_pos (by omega)]
  · rw [if_neg q]
    by_cases q2 : j / 20 = a ∧ 5 * (j / 5 % 4) + j % 5 < i ∧ j % 5 < 5
    · rw [if_pos q2, if_pos (by omega)]
    · rw [if_neg q2, if_neg (by omega)]
theorem rst_b {qm : Nat → Nat} {cI cZ : ClassId} {n S P a i : Nat} {x : St} (hi : i < 20) :
    wR qm cI cZ n S P (col ((rst x a 4 i).1 13) 0) (col ((rst x a 4 i).1 0) 0) (col ((rst x a 4 i).1 0) 1) (col ((rst x a 4 i).1 0) 2) (col ((rst x a 4 i).1 0) 3) (col ((rst x a 4 i).1 0) 4) (col ((rst x a 4 i).1 0) 5) (col ((rst x a 4 i).1 0) 6)
      (sq 4 ((rst x a 4 i).1 2)) (sq 4 ((rst x a 4 i).1 1)) (sq 4 ((rst x a 4 i).1 6)) (sq 4 ((rst x a 4 i).1 3)) (sq 4 ((rst x a 4 i).1 4)) (sq 4 ((rst x a 4 i).1 7)) (sq 4 ((rst x a 4 i).1 8)) (sq 4 ((rst x a 4 i).1 9)) (sq 4 ((rst x a 4 i).1 10)) (upd (hrm ((rst x a 4 i).2 0)) (20 * a + i) (-1)) (upd (hrm ((rst x a 4 i).2 1)) (20 * a + i) (nI 0)) (sq 4 ((rst x a 4 i).1 11)) ((rst x a 4 i).1 12 0 0) ((rst x a 4 i).1 12 0 1)
    = wM qm cI cZ n S P (rst x a 4 (i + 1)) := by
  rw [rst_h (c := 0) (v := -1) hi rfl, rst_h (c := 1) (v := nI 0) hi rfl]
  rfl
theorem rst_end {qm : Nat → Nat} {cI cZ : ClassId} {n S P a : Nat} {x : St} : wM qm cI cZ n S P (rst x a 4 20) = wM qm cI cZ n S P (sBack x a) := by
  have e : ∀ c, sq 4 ((rst x a 4 20).1 c) = sq 4 ((sBack x a).1 c) := fun c => sq_ext (by omega) (fun a' s' h => back_c (S := 4) c h)
  have o : ∀ c, c ≠ 1 → c ≠ 3 → c ≠ 4 → c ≠ 7 → c ≠ 11 → (rst x a 4 20).1 c = (sBack x a).1 c := fun c h1 h3 h4 h7 h11 => by rw [rst_o h1 h3 h4 h7 h11, back_o h1 h3 h4 h7 h11]
  have eh : ∀ c, hrm ((rst x a 4 20).2 c) = hrm ((sBack x a).2 c) := by
    intro c
    funext j
    unfold hrm hr
    simp only [rst, sBack]
    by_cases z : j / 20 = a
    · rw [if_pos (by omega), if_pos z]
    · rw [if_neg (by omega), if_neg z]
  simp only [wM, e, eh, o 0 (by decide) (by decide) (by decide) (by decide) (by decide), o 12 (by decide) (by decide) (by decide) (by decide) (by decide), o 13 (by decide) (by decide) (by decide) (by decide) (by decide)]
