/-! two worlds beside each other: a call on one of them -/
theorem blk_P {D : va_G} {cl : List vw_C} {H : Heap} {u v : va_W} (hP : va_P D cl (u ++ v) H) : va_P D cl u H ∧ va_P D cl v H := by
  refine ⟨fun k q hq => hP k q ?_, fun k q hq => hP (u.length + k) q ?_⟩
  · rw [List.getElem?_append_left (List.getElem?_eq_some_iff.mp hq).1]; exact hq
  · rw [List.getElem?_append_right (by omega), Nat.add_sub_cancel_left]; exact hq
theorem blk_D {A : Nat → Prop} {u v : va_W} (hD : va_D A (u ++ v)) : va_D A u ∧ va_D A v ∧ ∀ (i j : Nat) (p q : Nat × va_E), u[i]? = some p → v[j]? = some q → p.1 ≠ q.1 := by
  have hl : ∀ (i : Nat) (p : Nat × va_E), u[i]? = some p → (u ++ v)[i]? = some p := fun i p h => by
    rw [List.getElem?_append_left (List.getElem?_eq_some_iff.mp h).1]; exact h
  have hr : ∀ (j : Nat) (q : Nat × va_E), v[j]? = some q → (u ++ v)[u.length + j]? = some q := fun j q h => by
    rw [List.getElem?_append_right (by omega), Nat.add_sub_cancel_left]; exact h
  refine ⟨⟨fun i j p q hi hj h => hD.1 i j p q (hl i p hi) (hl j q hj) h, fun k q hk => hD.2 k q (hl k q hk)⟩, ⟨fun i j p q hi hj h => ?_, fun k q hk => hD.2 _ q (hr k q hk)⟩, fun i j p q hi hj h => ?_⟩
  · have := hD.1 _ _ p q (hr i p hi) (hr j q hj) h
    omega
  · have h1 := hD.1 i (u.length + j) p q (hl i p hi) (hr j q hj) h
    have h2 := (List.getElem?_eq_some_iff.mp hi).1
    omega
section KB
variable {p : Program} {l : Launch} {e : Env} {R : Room} {s : State} {m : MethodId} {args : Array Value} {below : List Frame} {meth : Method} {c : Code} {H H0 : Heap} {locs : List Loc} {cells slots : Nat} {Q : State → Prop} {A0 : Nat → Prop} {D : va_G} {tys : List (ClassId × FieldType)}
variable {rest : List Value} {u v : va_W} {pc : Nat} {ls : Array Slot} {st0 : List Value}
theorem blk_L {u1 : va_W} {H1 : Heap} (hP : va_P D vwCl (u ++ v) H) (hD : va_D A0 (u ++ v)) (hF : ∀ q, va_A u H.size q → A0 q) (hk : ∀ q : Nat, q < H.size → ¬ va_A u H.size q → H1[q]? = H[q]?) (hP1 : va_P D vwCl u1 H1) (hD1 : va_D (va_A u H.size) u1) : va_P D vwCl (u1 ++ v) H1 ∧ va_D A0 (u1 ++ v) := by
  obtain ⟨hPu, hPv⟩ := blk_P hP
  obtain ⟨hDu, hDv, hx⟩ := blk_D hD
  have ap : ∀ (j : Nat) (y : Nat × va_E), v[j]? = some y → y.1 < H.size ∧ ¬ va_A u H.size y.1 := by
    intro j y hy
    have hlt := (hPv j y hy).lt
    refine ⟨hlt, ?_⟩
    rintro (⟨k, e9, h⟩ | h)
    · exact hx k j (y.1, e9) y h hy rfl
    · omega
  exact ⟨va_P.app hP1 (fun j y hy => (hPv j y hy).kept (hk y.1 (ap j y hy).1 (ap j y hy).2)), va_D.app (hD1.weaken (fun _ q _ h => hF q.1 h)) hDv (fun i j x y hx1 hy hxy => (ap j y hy).2 (hxy ▸ hD1.2 i x hx1))⟩
theorem blk_R {v1 : va_W} {H1 : Heap} (hP : va_P D vwCl (u ++ v) H) (hD : va_D A0 (u ++ v)) (hF : ∀ q, va_A v H.size q → A0 q) (hk : ∀ q : Nat, q < H.size → ¬ va_A v H.size q → H1[q]? = H[q]?) (hP1 : va_P D vwCl v1 H1) (hD1 : va_D (va_A v H.size) v1) : va_P D vwCl (u ++ v1) H1 ∧ va_D A0 (u ++ v1) := by
  obtain ⟨hPu, hPv⟩ := blk_P hP
  obtain ⟨hDu, hDv, hx⟩ := blk_D hD
  have ap : ∀ (j : Nat) (y : Nat × va_E), u[j]? = some y → y.1 < H.size ∧ ¬ va_A v H.size y.1 := by
    intro j y hy
    have hlt := (hPu j y hy).lt
    refine ⟨hlt, ?_⟩
    rintro (⟨k, e9, h⟩ | h)
    · exact hx j k y (y.1, e9) hy h rfl
    · omega
  exact ⟨va_P.app (fun j y hy => (hPu j y hy).kept (hk y.1 (ap j y hy).1 (ap j y hy).2)) hP1, va_D.app hDu (hD1.weaken (fun _ q _ h => hF q.1 h)) (fun i j x y hx1 hy hxy => (ap i x hx1).2 (hxy ▸ hD1.2 j y hy))⟩
theorem kx_iL {a : Array Value} {post : Int32 → va_W → Prop}
    (hr : va_Run p l e R s m args below meth c H locs cells slots 0 0 (F0 m pc ls st0) rest (va_Qi post (QW D tys (va_A u H.size)) (va_A u H.size) a) (va_A u H.size))
    (hP : va_P D vwCl (u ++ v) H) (hD : va_D A0 (u ++ v)) (hS : va_S A0 H0 H locs) (hA : ∀ q, H0.size ≤ q → A0 q)
    (kk : ∀ (r : Int32) (w1 : va_W) (H1 : Heap) (locs1 : List Loc), post r w1 → va_P D vwCl (w1 ++ v) H1 → va_D A0 (w1 ++ v) → va_S A0 H0 H1 locs1 → W p l e R s m args below meth c H1 locs1 cells slots Q (F0 m (pc + 3) ls (.int r :: rest))) :
    W p l e R s m args below meth c H locs cells slots Q (F0 m pc ls st0) := by
  obtain ⟨hDu, hDv, -⟩ := blk_D hD
  have hF : ∀ q, va_A u H.size q → A0 q := by
    rintro q (⟨k, e9, h⟩ | h)
    · exact hDu.2 k (q, e9) h
    · exact hA q (Nat.le_trans hS.1 h)
  refine va_calli hr hS (fun q _ h => hF q h) hF (fun r u1 t H1 locs1 ht hvm hw hB hz hk hS1 => ?_)
  obtain ⟨hP1, hK1, hD1⟩ := hB
  rw [ht] at hP1
  obtain ⟨x1, x2⟩ := blk_L hP hD hF hk hP1 hD1
  exact kk r u1 H1 locs1 hw x1 x2 hS1
theorem kx_iR {a : Array Value} {post : Int32 → va_W → Prop}
    (hr : va_Run p l e R s m args below meth c H locs cells slots 0 0 (F0 m pc ls st0) rest (va_Qi post (QW D tys (va_A v H.size)) (va_A v H.size) a) (va_A v H.size))
    (hP : va_P D vwCl (u ++ v) H) (hD : va_D A0 (u ++ v)) (hS : va_S A0 H0 H locs) (hA : ∀ q, H0.size ≤ q → A0 q)
    (kk : ∀ (r : Int32) (w1 : va_W) (H1 : Heap) (locs1 : List Loc), post r w1 → va_P D vwCl (u ++ w1) H1 → va_D A0 (u ++ w1) → va_S A0 H0 H1 locs1 → W p l e R s m args below meth c H1 locs1 cells slots Q (F0 m (pc + 3) ls (.int r :: rest))) :
    W p l e R s m args below meth c H locs cells slots Q (F0 m pc ls st0) := by
  obtain ⟨hDu, hDv, -⟩ := blk_D hD
  have hF : ∀ q, va_A v H.size q → A0 q := by
    rintro q (⟨k, e9, h⟩ | h)
    · exact hDv.2 k (q, e9) h
    · exact hA q (Nat.le_trans hS.1 h)
  refine va_calli hr hS (fun q _ h => hF q h) hF (fun r u1 t H1 locs1 ht hvm hw hB hz hk hS1 => ?_)
  obtain ⟨hP1, hK1, hD1⟩ := hB
  rw [ht] at hP1
  obtain ⟨x1, x2⟩ := blk_R hP hD hF hk hP1 hD1
  exact kk r u1 H1 locs1 hw x1 x2 hS1
theorem kx_lL {a : Array Value} {post : Int64 → va_W → Prop}
    (hr : va_Run p l e R s m args below meth c H locs cells slots 0 0 (F0 m pc ls st0) rest (va_Ql post (QW D tys (va_A u H.size)) (va_A u H.size) a) (va_A u H.size))
    (hP : va_P D vwCl (u ++ v) H) (hD : va_D A0 (u ++ v)) (hS : va_S A0 H0 H locs) (hA : ∀ q, H0.size ≤ q → A0 q)
    (kk : ∀ (r : Int64) (w1 : va_W) (H1 : Heap) (locs1 : List Loc), post r w1 → va_P D vwCl (w1 ++ v) H1 → va_D A0 (w1 ++ v) → va_S A0 H0 H1 locs1 → W p l e R s m args below meth c H1 locs1 cells slots Q (F0 m (pc + 3) ls (.long r :: rest))) :
    W p l e R s m args below meth c H locs cells slots Q (F0 m pc ls st0) := by
  obtain ⟨hDu, hDv, -⟩ := blk_D hD
  have hF : ∀ q, va_A u H.size q → A0 q := by
    rintro q (⟨k, e9, h⟩ | h)
    · exact hDu.2 k (q, e9) h
    · exact hA q (Nat.le_trans hS.1 h)
  refine va_calll hr hS (fun q _ h => hF q h) hF (fun r u1 t H1 locs1 ht hvm hw hB hz hk hS1 => ?_)
  obtain ⟨hP1, hK1, hD1⟩ := hB
  rw [ht] at hP1
  obtain ⟨x1, x2⟩ := blk_L hP hD hF hk hP1 hD1
  exact kk r u1 H1 locs1 hw x1 x2 hS1
theorem kx_lR {a : Array Value} {post : Int64 → va_W → Prop}
    (hr : va_Run p l e R s m args below meth c H locs cells slots 0 0 (F0 m pc ls st0) rest (va_Ql post (QW D tys (va_A v H.size)) (va_A v H.size) a) (va_A v H.size))
    (hP : va_P D vwCl (u ++ v) H) (hD : va_D A0 (u ++ v)) (hS : va_S A0 H0 H locs) (hA : ∀ q, H0.size ≤ q → A0 q)
    (kk : ∀ (r : Int64) (w1 : va_W) (H1 : Heap) (locs1 : List Loc), post r w1 → va_P D vwCl (u ++ w1) H1 → va_D A0 (u ++ w1) → va_S A0 H0 H1 locs1 → W p l e R s m args below meth c H1 locs1 cells slots Q (F0 m (pc + 3) ls (.long r :: rest))) :
    W p l e R s m args below meth c H locs cells slots Q (F0 m pc ls st0) := by
  obtain ⟨hDu, hDv, -⟩ := blk_D hD
  have hF : ∀ q, va_A v H.size q → A0 q := by
    rintro q (⟨k, e9, h⟩ | h)
    · exact hDv.2 k (q, e9) h
    · exact hA q (Nat.le_trans hS.1 h)
  refine va_calll hr hS (fun q _ h => hF q h) hF (fun r u1 t H1 locs1 ht hvm hw hB hz hk hS1 => ?_)
  obtain ⟨hP1, hK1, hD1⟩ := hB
  rw [ht] at hP1
  obtain ⟨x1, x2⟩ := blk_R hP hD hF hk hP1 hD1
  exact kk r u1 H1 locs1 hw x1 x2 hS1
theorem kx_cR {a : Array Value} {mk ms : Nat} {post : va_W → Prop}
    (hr : va_Run p l e R s m args below meth c H locs cells slots mk ms (F0 m pc ls st0) rest (va_Qv post (QW D tys (va_A v H.size)) (va_A v H.size) a) (va_A v H.size))
    (hP : va_P D vwCl (u ++ v) H) (hD : va_D A0 (u ++ v)) (hS : va_S A0 H0 H locs) (hA : ∀ q, H0.size ≤ q → A0 q)
    (kk : ∀ (w1 : va_W) (H1 : Heap) (locs1 : List Loc), post w1 → va_P D vwCl (u ++ w1) H1 → va_D A0 (u ++ w1) → va_S A0 H0 H1 locs1 → W p l e R s m args below meth c H1 locs1 (cells + mk) (slots + ms) Q (F0 m (pc + 3) ls rest)) :
    W p l e R s m args below meth c H locs cells slots Q (F0 m pc ls st0) := by
  obtain ⟨hDu, hDv, -⟩ := blk_D hD
  have hF : ∀ q, va_A v H.size q → A0 q := by
    rintro q (⟨k, e9, h⟩ | h)
    · exact hDv.2 k (q, e9) h
    · exact hA q (Nat.le_trans hS.1 h)
  refine va_callv hr hS (fun q _ h => hF q h) hF (fun u1 t H1 locs1 ht hvm hw hB hz hk hS1 => ?_)
  obtain ⟨hP1, hK1, hD1⟩ := hB
  rw [ht] at hP1
  obtain ⟨x1, x2⟩ := blk_R hP hD hF hk hP1 hD1
  exact kk u1 H1 locs1 hw x1 x2 hS1
end KB
