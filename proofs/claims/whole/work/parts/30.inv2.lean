/-! Every call keeps what holds -/
theorem ldv_spec (n P : Nat) (x : St) : ∀ d i, i ≤ ldv n P x d i ∧ ldv n P x d i ≤ i + d ∧ (∀ j, i ≤ j → j < ldv n P x d i → ¬ (x.1 0 j 0 ≠ 0 ∧ ¬ sBlk n P x j)) ∧ (ldv n P x d i < i + d → (x.1 0 (ldv n P x d i) 0 ≠ 0 ∧ ¬ sBlk n P x (ldv n P x d i))) := by
  intro d
  induction d with
  | zero => intro i; exact ⟨Nat.le_refl _, Nat.le_refl _, fun j h1 h2 => absurd h1 (Nat.not_le.mpr h2), fun h => absurd h (Nat.lt_irrefl _)⟩
  | succ d ih =>
    intro i
    by_cases h : x.1 0 i 0 ≠ 0 ∧ ¬ sBlk n P x i
    · rw [ldv_s h]
      exact ⟨Nat.le_refl _, by omega, fun j h1 h2 => by omega, fun _ => h⟩
    · rw [ldv_n h]
      obtain ⟨h1, h2, h3, h4⟩ := ih (i + 1)
      refine ⟨by omega, by omega, fun j a b => ?_, fun a => h4 (by omega)⟩
      by_cases hj : j = i
      · subst hj; exact h
      · exact h3 j (by omega) b
theorem i32_pos {u w : Int32} (h1 : -1 ≤ u) (h2 : u < w) : ¬ w < 0 := by
  rw [Int32.le_iff_toInt_le] at h1
  rw [Int32.lt_iff_toInt_lt] at h2 ⊢
  have e : (-1 : Int32).toInt = -1 := by decide
  rw [e] at h1
  rw [Int32.toInt_zero]
  omega
theorem i32_lt_of_le_of_lt {u v w : Int32} (h1 : u ≤ v) (h2 : v < w) : u < w := by
  rw [Int32.le_iff_toInt_le] at h1
  rw [Int32.lt_iff_toInt_lt] at h2 ⊢
  omega
theorem Inv_begin {n S : Nat} {x : St} {a t r : Nat} {v : Int32} (h : Inv n S x) (ha : a < n) (hr : r ≤ 1000) (hb : x.1 2 a t < nI (r * n + a)) (hv : 0 ≤ v) : Inv n S (sBegin x a t (nI (r * n + a)) v) := by
  obtain ⟨h1, h2, h3, h4, h5⟩ := h
  have e1 : (sBegin x a t (nI (r * n + a)) v).1 1 = up2 (x.1 1) a t (nI 1) := rfl
  have e2 : (sBegin x a t (nI (r * n + a)) v).1 2 = up2 (x.1 2) a t (nI (r * n + a)) := rfl
  have e3 : (sBegin x a t (nI (r * n + a)) v).1 3 = up2 (x.1 3) a t (nI 0) := rfl
  have e4 : (sBegin x a t (nI (r * n + a)) v).1 4 = up2 (x.1 4) a t (-1) := rfl
  have e5 : (sBegin x a t (nI (r * n + a)) v).1 5 = up2 (x.1 5) a t v := rfl
  have e6 : (sBegin x a t (nI (r * n + a)) v).1 6 = up2 (x.1 6) a t v := rfl
  have e7 : (sBegin x a t (nI (r * n + a)) v).1 7 = up2 (x.1 7) a t (nI 0) := rfl
  have e0 : (sBegin x a t (nI (r * n + a)) v).1 0 = x.1 0 := rfl
  have e9 : (sBegin x a t (nI (r * n + a)) v).1 9 = x.1 9 := rfl
  have e10 : (sBegin x a t (nI (r * n + a)) v).1 10 = x.1 10 := rfl
  have e11 : (sBegin x a t (nI (r * n + a)) v).1 11 = x.1 11 := rfl
  have e13 : (sBegin x a t (nI (r * n + a)) v).1 13 = x.1 13 := rfl
  refine ⟨Imsg_c e0 h1, ⟨fun s b v v' p q => h2.1 s b v v' (Pr_c e0 e9 e10 p) (Pr_c e0 e9 e10 q), fun s b w p => ?_, fun a' s ha' q => ?_⟩, ?_, ?_, ?_⟩
  · obtain ⟨a', r', g1, g2, g3, g4, g5⟩ := h2.2.1 s b w (Pr_c e0 e9 e10 p)
    refine ⟨a', r', g1, g2, g3, ?_⟩
    rw [e2, e1]
    by_cases z : a' = a ∧ s = t
    · obtain ⟨rfl, rfl⟩ := z
      rw [up2_s]
      have hlt := i32_lt_of_le_of_lt g4 hb
      exact ⟨Int32.le_of_lt hlt, fun _ => Int32.ne_of_lt hlt⟩
    · rw [up2_n z, up2_n z]
      exact ⟨g4, g5⟩
  · rw [e1] at q
    rw [e2]
    by_cases z : a' = a ∧ s = t
    · obtain ⟨rfl, rfl⟩ := z
      rw [up2_s]
      exact ⟨r, hr, rfl⟩
    · rw [up2_n z] at q ⊢
      exact h2.2.2 a' s ha' q
  · unfold Ival at *
    rw [e5, e6, e7, e10, e11]
    exact ⟨up2_all h3.1 hv, up2_all h3.2.1 hv, up2_all h3.2.2.1 (by decide), h3.2.2.2⟩
  · unfold Ibest at *
    rw [e4, e1, e5, e6, e7, e9, e10]
    refine ⟨up2_all h4.1 (by decide), fun a' s q => ?_, h4.2.2⟩
    by_cases z : a' = a ∧ s = t
    · obtain ⟨rfl, rfl⟩ := z
      rw [up2_s, up2_s, up2_s, if_pos (by decide)]
    · rw [up2_n z] at q
      rw [up2_n z, up2_n z, up2_n z, up2_n z]
      exact h4.2.1 a' s q
  · unfold Ibit at *
    rw [e3, e13]
    exact ⟨up2_all (p := fun w => ∃ k, k < 32 ∧ w = nI k) h5.1 ⟨0, by decide, rfl⟩, h5.2⟩
theorem Inv_prom1 {n S : Nat} {x : St} {a t c : Nat} {v o : Int32} (h : Inv n S x) (hc : c < 5) (hv : 0 ≤ v) : Inv n S (sProm1 x a t (nI c) v o) := by
  obtain ⟨h1, h2, h3, h4, h5⟩ := h
  obtain ⟨e, he, he'⟩ := h5.1 a t
  have hE := orb_fin e he c hc
  have hbit : ∀ a' s', ∃ k, k < 32 ∧ up2 (x.1 3) a t (orb (x.1 3 a t) (nI c)) a' s' = nI k :=
    up2_all (p := fun w => ∃ k, k < 32 ∧ w = nI k) h5.1 ⟨e ||| 2 ^ c, hE.2, by rw [he']; exact hE.1⟩
  unfold sProm1
  by_cases q : x.1 4 a t < o
  · rw [if_pos q]
    refine ⟨h1, Ipr_sub h2 (fun _ _ _ z => z) rfl (fun _ _ z => z), ?_, ?_, ?_⟩
    · exact ⟨up2_all h3.1 hv, h3.2.1, up2_all h3.2.2.1 hv, h3.2.2.2⟩
    · refine ⟨fun a' s' => ?_, fun a' s' z => ?_, h4.2.2⟩
      · show -1 ≤ up2 (x.1 4) a t o a' s'
        have hz := up2_all (p := fun w => -1 ≤ w) (a := a) (s := t) (v := o) h4.1 (Int32.le_of_lt (i32_lt_of_le_of_lt (h4.1 a t) q))
        exact hz a' s'
      · show up2 (x.1 5) a t v a' s' = if up2 (x.1 4) a t o a' s' < 0 then x.1 6 a' s' else up2 (x.1 7) a t v a' s'
        by_cases y : a' = a ∧ s' = t
        · obtain ⟨rfl, rfl⟩ := y
          rw [up2_s, up2_s, up2_s, if_neg (i32_pos (h4.1 a' s') q)]
        · rw [up2_n y, up2_n y, up2_n y]
          exact h4.2.1 a' s' z
    · exact ⟨hbit, h5.2⟩
  · rw [if_neg q]
    exact ⟨h1, Ipr_sub h2 (fun _ _ _ z => z) rfl (fun _ _ z => z), h3, h4, hbit, h5.2⟩
theorem prom1_o {x : St} {a t : Nat} {sd v o : Int32} {c : Nat} (h3 : c ≠ 3) (h4 : c ≠ 4) (h5 : c ≠ 5) (h7 : c ≠ 7) : (sProm1 x a t sd v o).1 c = x.1 c := by
  unfold sProm1
  by_cases q : x.1 4 a t < o
  · rw [if_pos q, put_o h7, put_o h5, put_o h4, put_o h3]
  · rw [if_neg q, put_o h3]
/-- the proposer has its majority: the pair is new -/
theorem Inv_win {n S P : Nat} {x : St} {a t c : Nat} {v o b : Int32} (hn : n ≤ 5) (hS : S ≤ 4) (ha : a < n) (ht : t < S) (h : Inv n S x) (hc : c < 5) (hv : 0 ≤ v) (hph : x.1 1 a t = nI 1) (hla : x.1 2 a t = b) :
    Inv n S (sendA P (put (sProm1 x a t (nI c) v o) 1 a t (nI 2)) (nI 3) (nI a) (nI t) b ((sProm1 x a t (nI c) v o).1 5 a t) n) := by
  have hp := Inv_prom1 (a := a) (t := t) (v := v) (o := o) h hc hv
  generalize hy : sProm1 x a t (nI c) v o = y at hp ⊢
  have y1 : y.1 1 = x.1 1 := by rw [← hy]; exact prom1_o (by decide) (by decide) (by decide) (by decide)
  have y2 : y.1 2 = x.1 2 := by rw [← hy]; exact prom1_o (by decide) (by decide) (by decide) (by decide)
  obtain ⟨h1, h2, h3, h4, h5⟩ := hp
  have hval : 0 ≤ y.1 5 a t := h3.1 a t
  have e : ∀ c, c ≠ 0 → (sendA P (put y 1 a t (nI 2)) (nI 3) (nI a) (nI t) b (y.1 5 a t) n).1 c = (put y 1 a t (nI 2)).1 c := fun c hc => sendA_o hc n
  have hm : Imsg n S (put y 1 a t (nI 2)) := Imsg_c (put_o (by decide)) h1
  have hnew : ∀ w, ¬ Pr y t b w := fun w q => by
    obtain ⟨a', r', g1, g2, g3, g4, g5⟩ := h2.2.1 t b w q
    obtain ⟨r, hr, hr2⟩ := h2.2.2 a t ha (by rw [y1]; exact hph)
    rw [y2, hla, g3] at hr2
    have ea := own_u g1 ha (nI_inj (bal_lt hn g1 g2) (bal_lt hn ha hr) hr2)
    subst ea
    exact g5 (by rw [y1]; exact hph) (by rw [y2, hla])
  refine ⟨Imsg_A hm n (fun j hj => ⟨3, a, j, t, by decide, by decide, ha, hj, ht, rfl, rfl, rfl, rfl, hval⟩), ?_, ?_, ?_, ?_⟩
  · refine Ipr_add (E := True) (t := t) (b0 := b) (v0 := y.1 5 a t) h2 (fun s b' v' q => ?_) (by rw [e 2 (by decide)]; exact put_o (by decide)) (fun a' s' q => ?_) (fun _ => ⟨fun w q => absurd q (hnew w), ?_⟩)
    · rcases Pr_A n q with q | ⟨hs, -, g2, g3, g4⟩
      · exact Or.inl (Pr_c (put_o (by decide)) (put_o (by decide)) (put_o (by decide)) q)
      · exact Or.inr ⟨trivial, (nI_inj (by omega) (by omega) g2).symm, g3.symm, g4.symm⟩
    · rw [e 1 (by decide), put_c] at q
      by_cases z : a' = a ∧ s' = t
      · obtain ⟨rfl, rfl⟩ := z
        rw [up2_s] at q
        exact absurd q (by decide)
      · rw [up2_n z] at q
        exact q
    · obtain ⟨r, hr, hr2⟩ := h2.2.2 a t ha (by rw [y1]; exact hph)
      refine ⟨a, r, ha, hr, by rw [← hr2, y2, hla], by rw [y2, hla]; exact Int32.le_refl _, fun q => ?_⟩
      rw [e 1 (by decide), put_c, up2_s] at q
      exact absurd q (by decide)
  · exact Ival_c e ⟨h3.1, h3.2.1, h3.2.2.1, h3.2.2.2⟩
  · refine Ibest_c e ⟨h4.1, fun a' s' q => ?_, h4.2.2⟩
    by_cases z : a' = a ∧ s' = t
    · obtain ⟨rfl, rfl⟩ := z
      exact h4.2.1 a' s' (by rw [y1, hph]; decide)
    · have q2 : up2 (y.1 1) a t (nI 2) a' s' ≠ 0 := q
      rw [up2_n z] at q2
      exact h4.2.1 a' s' q2
  · exact Ibit_c e h5
theorem Inv_acc {n S P : Nat} {x : St} {m a t : Nat} {b v : Int32} (hn : n ≤ 5) (hS : S ≤ 4) (ha : a < n) (ht : t < S) (h : Inv n S x) (hk : x.1 0 m 0 = nI 3) (hsl : x.1 0 m 3 = nI t) (hb : x.1 0 m 4 = b) (hv : x.1 0 m 5 = v) (hv0 : 0 ≤ v) :
    Inv n S (sendA P (sAcc (sOut x m) a t b v) (nI 4) (nI a) (nI t) b v n) := by
  obtain ⟨h1, h2, h3, h4, h5⟩ := h
  have hpr : Pr x t b v := ⟨by omega, Or.inr ⟨m, Or.inl hk, hsl, hb, hv⟩⟩
  have hb0 : 0 ≤ b := by
    obtain ⟨a', r', g1, g2, g3, -, -⟩ := h2.2.1 t b v hpr
    rw [g3]
    exact nI_pos' (bal_lt hn g1 g2)
  have e : ∀ c, c ≠ 0 → (sendA P (sAcc (sOut x m) a t b v) (nI 4) (nI a) (nI t) b v n).1 c = (sAcc (sOut x m) a t b v).1 c := fun c hc => sendA_o hc n
  have e0 : (sAcc (sOut x m) a t b v).1 0 = (put x 0 m 0 (nI 0)).1 0 := rfl
  have e9 : (sAcc (sOut x m) a t b v).1 9 = up2 (x.1 9) a t b := rfl
  have e10 : (sAcc (sOut x m) a t b v).1 10 = up2 (x.1 10) a t v := rfl
  have hz : ∀ s' b' v', Pr (sAcc (sOut x m) a t b v) s' b' v' → Pr x s' b' v' := by
    intro s' b' v' q
    unfold Pr at q
    rw [e0, e9, e10] at q
    rcases q with ⟨hs, ⟨a', q1, q2, q3⟩ | q⟩
    · by_cases z : a' = a ∧ s' = t
      · obtain ⟨rfl, rfl⟩ := z
        rw [up2_s] at q1 q3
        subst q1; subst q3
        exact hpr
      · rw [up2_n z] at q1 q3
        exact ⟨hs, Or.inl ⟨a', q1, q2, q3⟩⟩
    · exact Pr_o (m := m) ⟨hs, Or.inr q⟩
  refine ⟨Imsg_A (Imsg_c e0 (Imsg_o h1)) n (fun j hj => ⟨4, a, j, t, by decide, by decide, ha, hj, ht, rfl, rfl, rfl, rfl, hv0⟩), Ipr_sub h2 (fun s' b' v' q => ?_) (by rw [e 2 (by decide)]; rfl) (fun a' s' q => by rw [e 1 (by decide)] at q; exact q), ?_, ?_, ?_⟩
  · rcases Pr_A n q with q | ⟨hs, -, g2, g3, g4⟩
    · exact hz s' b' v' q
    · have : t = s' := nI_inj (by omega) (by omega) g2
      subst this; subst g3; subst g4
      exact hpr
  · exact Ival_c e ⟨h3.1, h3.2.1, h3.2.2.1, up2_all h3.2.2.2.1 hv0, h3.2.2.2.2⟩
  · refine Ibest_c e ⟨h4.1, h4.2.1, fun a' s' q => ?_⟩
    rw [e9] at q
    rw [e10]
    by_cases z : a' = a ∧ s' = t
    · obtain ⟨rfl, rfl⟩ := z
      rw [up2_s] at q
      exact absurd hb0 (Int32.not_le.mpr q)
    · rw [up2_n z] at q ⊢
      exact h4.2.2 a' s' q
  · exact Ibit_c e h5
theorem Inv_ho {n S P : Nat} {x : St} {m : Nat} (hn : n ≤ 5) (hS : S ≤ 4) (h : Inv n S x) (hk0 : x.1 0 m 0 ≠ 0) : Inv n S (sHo n P x m).2 := by
  obtain ⟨k, c, a, t, hk1, hk5, hc, ha, ht, hk, hsd, hrc, hsl, hv⟩ := h.1 m hk0
  have iA : ix (x.1 0 m 2) = a := by rw [hrc]; exact ix_nI ha (by omega)
  have iT : ix (x.1 0 m 3) = t := by rw [hsl]; exact ix_nI ht (by omega)
  have iB : ix (x.1 0 m 1) = c := by rw [hsd]; exact ix_nI hc (by omega)
  by_cases hd : x.1 13 a 0 = 0
  · rw [sHo_u iB iA iT hd]
    show Inv n S (sTake n P (sOut x m) (x.1 0 m 0) c a t (x.1 0 m 4) (x.1 0 m 5) (x.1 0 m 6))
    have ho := Inv_out (m := m) h
    rcases (show k = 1 ∨ k = 2 ∨ k = 3 ∨ k = 4 ∨ k = 5 by omega) with rfl | rfl | rfl | rfl | rfl
    · rw [hk, sTake_1]
      by_cases q : (sOut x m).1 8 a t < x.1 0 m 4
      · rw [if_pos q]
        refine Inv_7 (Inv_put8 ho) ⟨2, a, c, t, by decide, by decide, ha, hc, ht, rfl, rfl, rfl, rfl, ho.2.2.1.2.2.2.1 a t⟩ (fun t' _ q => ?_)
        exact absurd q (by decide)
      · rw [if_neg q]; exact ho
    · rw [hk, sTake_2]
      by_cases q : (sOut x m).1 1 a t = nI 1 ∧ (sOut x m).1 2 a t = x.1 0 m 4
      · rw [if_pos q]
        by_cases q2 : n < 2 * popn (ix (orb ((sOut x m).1 3 a t) (nI c)))
        · rw [if_pos q2]; exact Inv_win hn hS ha ht ho (by omega) hv q.1 q.2
        · rw [if_neg q2]; exact Inv_prom1 ho (by omega) hv
      · rw [if_neg q]; exact ho
    · rw [hk, sTake_3]
      by_cases q : (sOut x m).1 8 a t ≤ x.1 0 m 4
      · rw [if_pos q]; exact Inv_acc hn hS ha ht h hk hsl rfl rfl hv
      · rw [if_neg q]; exact ho
    · rw [hk, sTake_4]; exact Inv_hear ho hv
    · rw [hk, sTake_5 (by decide) (by decide) (by decide) (by decide)]; exact Inv_learn ho hv
  · rw [sHo_d iA hd]
    exact Inv_lost (Inv_out h)
theorem Inv_sw {n S P : Nat} (hn : n ≤ 5) (hS : S ≤ 4) : ∀ k (x : St), Inv n S x → Inv n S (sSw n P k x).2 := by
  intro k
  induction k with
  | zero => intro x h; exact h
  | succ k ih =>
    intro x h
    show Inv n S (if ldv n P x P 0 = P then (0, x) else ((sSw n P k (sHo n P x (ldv n P x P 0)).2).1 + 1, (sSw n P k (sHo n P x (ldv n P x P 0)).2).2)).2
    by_cases q : ldv n P x P 0 = P
    · rw [if_pos q]; exact h
    · rw [if_neg q]
      by_cases hk : x.1 0 (ldv n P x P 0) 0 = 0
      · exfalso
        obtain ⟨-, h2, -, h4⟩ := ldv_spec n P x P 0
        exact (h4 (by omega)).1 hk
      · exact ih _ (Inv_ho hn hS h hk)
theorem Inv_prep {n S P : Nat} {x : St} {nd sl rd vl : Int32} (hn : n ≤ 5) (hS : S ≤ 4) (h : Inv n S x) : Inv n S (sPrep n S P x nd sl rd vl).2 := by
  unfold sPrep
  by_cases q : okN nd n ∧ okN sl S ∧ 0 ≤ rd ∧ rd ≤ nI 1000 ∧ nI 1 ≤ vl
  · rw [if_pos q]
    obtain ⟨q1, q2, q3, q4, q5⟩ := q
    obtain ⟨a, ha, rfl⟩ := okN_of (by omega) q1
    obtain ⟨t, ht, rfl⟩ := okN_of (by omega) q2
    obtain ⟨r, hr, rfl⟩ := wi_of (P := 1001) (by decide) (by decide) ⟨q3, q4⟩
    rw [ix_nI ha (by omega), ix_nI ht (by omega), pk_mul, nI_add]
    by_cases c1 : x.1 13 a 0 ≠ 0
    · rw [if_pos c1]; exact h
    · rw [if_neg c1]
      by_cases c2 : nI (r * n + a) ≤ x.1 2 a t
      · rw [if_pos c2]; exact h
      · rw [if_neg c2]
        by_cases c3 : P - cntx P x < n
        · rw [if_pos c3]; exact h
        · rw [if_neg c3]
          have hv : 0 ≤ vl := Int32.le_trans (by decide) q5
          refine Inv_A (Inv_begin h ha (by omega) (Int32.not_le.mp c2) hv) n (fun j hj => ⟨1, a, j, t, by decide, by decide, ha, hj, ht, rfl, rfl, rfl, rfl, by decide⟩) (fun t' _ q => ?_)
          exact absurd q (by decide)
  · rw [if_neg q]; exact h
theorem Inv_del {n S P : Nat} {x : St} {v : Int32} (hn : n ≤ 5) (hS : S ≤ 4) (h : Inv n S x) : Inv n S (sDel n P x v).2 := by
  unfold sDel
  by_cases q : isM P x v
  · rw [if_pos q]
    by_cases q2 : sBlk n P x (ix v)
    · rw [if_pos q2]; exact h
    · rw [if_neg q2]; exact Inv_ho hn hS h q.2
  · rw [if_neg q]; exact h
theorem Inv_sweep {n S P : Nat} {x : St} {v : Int32} (hn : n ≤ 5) (hS : S ≤ 4) (h : Inv n S x) : Inv n S (sSweep n P x v).2 := by
  unfold sSweep
  by_cases q : 0 ≤ v ∧ v ≤ nI 100
  · rw [if_pos q]; exact Inv_sw hn hS _ _ h
  · rw [if_neg q]; exact h
theorem Inv_drop {n S P : Nat} {x : St} {v : Int32} (h : Inv n S x) : Inv n S (sDrop P x v).2 := by
  unfold sDrop
  by_cases q : isM P x v
  · rw [if_pos q]; exact Inv_lost (Inv_o h)
  · rw [if_neg q]; exact h
theorem Inv_dup {n S P : Nat} {x : St} {v : Int32} (h : Inv n S x) : Inv n S (sDup P x v).2 := by
  unfold sDup
  by_cases q : isM P x v
  · rw [if_pos q]
    by_cases q2 : cntx P x = P
    · rw [if_pos q2]; exact h
    · rw [if_neg q2]
      exact Inv_7 h (h.1 (ix v) q.2) (fun t' ht' g1 g2 => ⟨ht', Or.inr ⟨ix v, g1, g2, rfl, rfl⟩⟩)
  · rw [if_neg q]; exact h
theorem Inv_13 {n S : Nat} {x : St} {a : Nat} {v : Int32} (h : Inv n S x) (hv : v = nI 0 ∨ v = nI 1) : Inv n S (put x 13 a 0 v) := by
  obtain ⟨h1, h2, h3, h4, h5⟩ := h
  have e13 : (put x 13 a 0 v).1 13 = up2 (x.1 13) a 0 v := put_c
  refine ⟨h1, Ipr_sub h2 (fun _ _ _ q => q) rfl (fun _ _ q => q), h3, h4, h5.1, fun a' => ?_⟩
  rw [e13]
  by_cases z : a' = a
  · subst z; rw [up2_s]; exact hv
  · rw [up2_n (fun q => z q.1)]; exact h5.2 a'
theorem Inv_crash {n S : Nat} {x : St} {v : Int32} (h : Inv n S x) : Inv n S (sCrash n x v).2 := by
  unfold sCrash
  by_cases q : okN v n ∧ x.1 13 (ix v) 0 = 0
  · rw [if_pos q]; exact Inv_13 h (Or.inr rfl)
  · rw [if_neg q]; exact h
theorem Inv_back {n S : Nat} {x : St} {a : Nat} (h : Inv n S x) : Inv n S (sBack x a) := by
  obtain ⟨h1, h2, h3, h4, h5⟩ := h
  have e1 : ∀ a' s', (sBack x a).1 1 a' s' = if a' = a then nI 0 else x.1 1 a' s' := fun a' s' => by simp [sBack]
  have e3 : ∀ a' s', (sBack x a).1 3 a' s' = if a' = a then nI 0 else x.1 3 a' s' := fun a' s' => by simp [sBack]
  have e4 : ∀ a' s', (sBack x a).1 4 a' s' = if a' = a then -1 else x.1 4 a' s' := fun a' s' => by simp [sBack]
  have e7 : ∀ a' s', (sBack x a).1 7 a' s' = if a' = a then nI 0 else x.1 7 a' s' := fun a' s' => by simp [sBack]
  have e11 : ∀ a' s', (sBack x a).1 11 a' s' = if a' = a then nI 0 else x.1 11 a' s' := fun a' s' => by simp [sBack]
  have e : ∀ c, c ≠ 1 → c ≠ 3 → c ≠ 4 → c ≠ 7 → c ≠ 11 → (sBack x a).1 c = x.1 c := fun c z1 z3 z4 z7 z11 => by funext a' s'; simp [sBack, z1, z3, z4, z7, z11]
  have c0 := e 0 (by decide) (by decide) (by decide) (by decide) (by decide)
  have c2 := e 2 (by decide) (by decide) (by decide) (by decide) (by decide)
  have c5 := e 5 (by decide) (by decide) (by decide) (by decide) (by decide)
  have c6 := e 6 (by decide) (by decide) (by decide) (by decide) (by decide)
  have c9 := e 9 (by decide) (by decide) (by decide) (by decide) (by decide)
  have c10 := e 10 (by decide) (by decide) (by decide) (by decide) (by decide)
  have c13 := e 13 (by decide) (by decide) (by decide) (by decide) (by decide)
  refine ⟨Imsg_c c0 h1, Ipr_sub h2 (fun _ _ _ q => Pr_c c0 c9 c10 q) c2 (fun a' s' q => ?_), ?_, ?_, ?_⟩
  · rw [e1] at q
    by_cases z : a' = a
    · rw [if_pos z] at q; exact absurd q (by decide)
    · rw [if_neg z] at q; exact q
  · unfold Ival at *
    rw [c5, c6, c10]
    refine ⟨h3.1, h3.2.1, fun a' s' => ?_, h3.2.2.2.1, fun a' s' => ?_⟩
    · rw [e7]; split
      · decide
      · exact h3.2.2.1 a' s'
    · rw [e11]; split
      · decide
      · exact h3.2.2.2.2 a' s'
  · unfold Ibest at *
    rw [c5, c6, c9, c10]
    refine ⟨fun a' s' => ?_, fun a' s' q => ?_, h4.2.2⟩
    · rw [e4]; split
      · decide
      · exact h4.1 a' s'
    · rw [e1] at q
      rw [e4, e7]
      by_cases z : a' = a
      · rw [if_pos z] at q; exact absurd rfl q
      · rw [if_neg z] at q; rw [if_neg z, if_neg z]; exact h4.2.1 a' s' q
  · unfold Ibit at *
    rw [c13]
    refine ⟨fun a' s' => ?_, h5.2⟩
    rw [e3]; split
    · exact ⟨0, by decide, rfl⟩
    · exact h5.1 a' s'
theorem Inv_rest {n S : Nat} {x : St} {v : Int32} (h : Inv n S x) : Inv n S (sRest n x v).2 := by
  unfold sRest
  by_cases q : okN v n ∧ x.1 13 (ix v) 0 ≠ 0
  · rw [if_pos q]; exact Inv_back (Inv_13 h (Or.inl rfl))
  · rw [if_neg q]; exact h
theorem Inv_tell {n S P : Nat} {x : St} {nd sl : Int32} (hn : n ≤ 5) (hS : S ≤ 4) (h : Inv n S x) : Inv n S (sTell n S P x nd sl).2 := by
  unfold sTell
  by_cases q : okN nd n ∧ okN sl S ∧ x.1 11 (ix nd) (ix sl) ≠ 0
  · rw [if_pos q]
    obtain ⟨q1, q2, q3⟩ := q
    obtain ⟨a, ha, rfl⟩ := okN_of (by omega) q1
    obtain ⟨t, ht, rfl⟩ := okN_of (by omega) q2
    by_cases c1 : x.1 13 (ix (nI a)) 0 ≠ 0
    · rw [if_pos c1]; exact h
    · rw [if_neg c1]
      by_cases c3 : P - cntx P x < n
      · rw [if_pos c3]; exact h
      · rw [if_neg c3]
        refine Inv_A h n (fun j hj => ⟨5, a, j, t, by decide, by decide, ha, hj, ht, rfl, rfl, rfl, rfl, h.2.2.1.2.2.2.2 _ _⟩) (fun t' _ q => ?_)
        exact absurd q (by decide)
  · rw [if_neg q]; exact h
