/-! My own rows over the kit: a world before and behind a method, a call as one row, arrays at numbered places -/
abbrev PW (D : va_G) (tys : List (ClassId × FieldType)) (sz : Nat) (w : va_W) (U : State) : Prop :=
  U.heap.size = sz ∧ va_P D vwCl w U.heap ∧ va_K D vwCl tys U ∧ va_D (fun _ => True) w ∧ NZ U
abbrev QW (D : va_G) (tys : List (ClassId × FieldType)) (A : Nat → Prop) (w : va_W) (t : State) : Prop :=
  va_P D vwCl w t.heap ∧ va_K D vwCl tys t ∧ va_D A w
/-- a method that makes nothing and answers an int; its world goes from w to what post says -/
def MI (l : Launch) (D : va_G) (tys : List (ClassId × FieldType)) (y : MethodName) (ws : List Cond) (rm : Room) (av : List Value) (w : va_W) (post : Int32 → va_W → Prop) : Prop :=
  ∀ sz : Nat, Met l y ws rm (va_Pc av (PW D tys sz w)) (va_Qi post (QW D tys (va_A w sz)) (va_A w sz)) 0 0 (va_A w sz)
def ML (l : Launch) (D : va_G) (tys : List (ClassId × FieldType)) (y : MethodName) (ws : List Cond) (rm : Room) (av : List Value) (w : va_W) (post : Int64 → va_W → Prop) : Prop :=
  ∀ sz : Nat, Met l y ws rm (va_Pc av (PW D tys sz w)) (va_Ql post (QW D tys (va_A w sz)) (va_A w sz)) 0 0 (va_A w sz)
def MV (l : Launch) (D : va_G) (tys : List (ClassId × FieldType)) (y : MethodName) (ws : List Cond) (rm : Room) (av : List Value) (w : va_W) (post : va_W → Prop) : Prop :=
  ∀ sz : Nat, Met l y ws rm (va_Pc av (PW D tys sz w)) (va_Qv post (QW D tys (va_A w sz)) (va_A w sz)) 0 0 (va_A w sz)
theorem fb_PW {av : List Value} {D : va_G} {tys : List (ClassId × FieldType)} {sz : Nat} {w : va_W} : FrameBlind (va_Pc av (PW D tys sz w)) :=
  fun a U g mk q => by
    obtain ⟨q0, q1, qP, qK, qD, qZ⟩ := q
    exact ⟨q0, q1, qP, va_K.moved (u := U) (U := U.calling g mk a) (Vm.Alike.refl U.vm) qK, qD, qZ.same rfl⟩
theorem pre_PW {s : State} {H : Heap} {A : Nat → Prop} {av : List Value} {D : va_G} {tys : List (ClassId × FieldType)} {w : va_W} (hK : va_K D vwCl tys s) (hP : va_P D vwCl w H) (hD : va_D A w) (hZ : NZ s) :
    ∀ U : State, U.heap = H → s.WarmedH U.vm → va_Pc av (PW D tys H.size w) av.toArray U :=
  fun U hU hW => ⟨rfl, by rw [hU], by rw [hU]; exact hP, va_K.moved hW.alike hK, hD.weaken (fun _ _ _ _ => trivial), hZ.moved hW⟩
/-- the cells at these places -/
def pickW (w : va_W) (is : List Nat) : va_W := is.filterMap (fun i => w[i]?)
section KX
variable {p : Program} {l : Launch} {e : Env} {R : Room} {s : State} {m : MethodId} {args : Array Value} {below : List Frame} {meth : Method} {c : Code} {H H0 : Heap} {locs : List Loc} {cells slots : Nat} {Q : State → Prop} {A0 : Nat → Prop} {D : va_G} {tys : List (ClassId × FieldType)}
variable {y : MethodName} {bytes cc : ByteArray} {maxL nL n index : Nat} {ret : Option FieldType} {ws : List Cond} {rm : Room} {Ts : List Cond} {own C host : String} {b : Addr} {As rest : List Value} {wc w : va_W} {pc : Nat} {ls : Array Slot} {st0 : List Value}
theorem kx_i {a : Array Value} {post : Int32 → va_W → Prop}
    (hr : va_Run p l e R s m args below meth c H locs cells slots 0 0 (F0 m pc ls st0) rest (va_Qi post (QW D tys (va_A wc H.size)) (va_A wc H.size) a) (va_A wc H.size))
    (hP : va_P D vwCl w H) (hD : va_D A0 w) (hS : va_S A0 H0 H locs) (hA : ∀ q, H0.size ≤ q → A0 q) (isC isR : List Nat) (hC : isC.map (fun i => w[i]?) = wc.map some) (hR : isR.map (fun i => w[i]?) = (pickW w isR).map some) (hn : va_nd isR = true) (hdis : ∀ i ∈ isR, i ∉ isC)
    (kk : ∀ (r : Int32) (w1 : va_W) (H1 : Heap) (locs1 : List Loc), post r w1 → va_P D vwCl (pickW w isR ++ w1) H1 → va_D A0 (pickW w isR ++ w1) → va_S A0 H0 H1 locs1 → W p l e R s m args below meth c H1 locs1 cells slots Q (F0 m (pc + 3) ls (.int r :: rest))) :
    W p l e R s m args below meth c H locs cells slots Q (F0 m pc ls st0) := by
  have hF := va_free hD hS hA isC hC
  refine va_calli hr hS (fun q _ h => hF q h) hF (fun r u t H1 locs1 ht hvm hw hB hz hk hS1 => ?_)
  obtain ⟨hP1, hK1, hD1⟩ := hB
  rw [ht] at hP1
  obtain ⟨x1, x2⟩ := va_join hP hD isC isR hC hR hn hdis hk hF hP1 hD1
  exact kk r u H1 locs1 hw x1 x2 hS1
theorem kx_l {a : Array Value} {post : Int64 → va_W → Prop}
    (hr : va_Run p l e R s m args below meth c H locs cells slots 0 0 (F0 m pc ls st0) rest (va_Ql post (QW D tys (va_A wc H.size)) (va_A wc H.size) a) (va_A wc H.size))
    (hP : va_P D vwCl w H) (hD : va_D A0 w) (hS : va_S A0 H0 H locs) (hA : ∀ q, H0.size ≤ q → A0 q) (isC isR : List Nat) (hC : isC.map (fun i => w[i]?) = wc.map some) (hR : isR.map (fun i => w[i]?) = (pickW w isR).map some) (hn : va_nd isR = true) (hdis : ∀ i ∈ isR, i ∉ isC)
    (kk : ∀ (r : Int64) (w1 : va_W) (H1 : Heap) (locs1 : List Loc), post r w1 → va_P D vwCl (pickW w isR ++ w1) H1 → va_D A0 (pickW w isR ++ w1) → va_S A0 H0 H1 locs1 → W p l e R s m args below meth c H1 locs1 cells slots Q (F0 m (pc + 3) ls (.long r :: rest))) :
    W p l e R s m args below meth c H locs cells slots Q (F0 m pc ls st0) := by
  have hF := va_free hD hS hA isC hC
  refine va_calll hr hS (fun q _ h => hF q h) hF (fun r u t H1 locs1 ht hvm hw hB hz hk hS1 => ?_)
  obtain ⟨hP1, hK1, hD1⟩ := hB
  rw [ht] at hP1
  obtain ⟨x1, x2⟩ := va_join hP hD isC isR hC hR hn hdis hk hF hP1 hD1
  exact kk r u H1 locs1 hw x1 x2 hS1
theorem kx_v {a : Array Value} {post : va_W → Prop}
    (hr : va_Run p l e R s m args below meth c H locs cells slots 0 0 (F0 m pc ls st0) rest (va_Qv post (QW D tys (va_A wc H.size)) (va_A wc H.size) a) (va_A wc H.size))
    (hP : va_P D vwCl w H) (hD : va_D A0 w) (hS : va_S A0 H0 H locs) (hA : ∀ q, H0.size ≤ q → A0 q) (isC isR : List Nat) (hC : isC.map (fun i => w[i]?) = wc.map some) (hR : isR.map (fun i => w[i]?) = (pickW w isR).map some) (hn : va_nd isR = true) (hdis : ∀ i ∈ isR, i ∉ isC)
    (kk : ∀ (w1 : va_W) (H1 : Heap) (locs1 : List Loc), post w1 → va_P D vwCl (pickW w isR ++ w1) H1 → va_D A0 (pickW w isR ++ w1) → va_S A0 H0 H1 locs1 → W p l e R s m args below meth c H1 locs1 cells slots Q (F0 m (pc + 3) ls rest)) :
    W p l e R s m args below meth c H locs cells slots Q (F0 m pc ls st0) := by
  have hF := va_free hD hS hA isC hC
  refine va_callv hr hS (fun q _ h => hF q h) hF (fun u t H1 locs1 ht hvm hw hB hz hk hS1 => ?_)
  obtain ⟨hP1, hK1, hD1⟩ := hB
  rw [ht] at hP1
  obtain ⟨x1, x2⟩ := va_join hP hD isC isR hC hR hn hdis hk hF hP1 hD1
  exact kk u H1 locs1 hw x1 x2 hS1
end KX
section KA
variable {p : Program} {l : Launch} {e : Env} {R : Room} {s : State} {m : MethodId} {args : Array Value} {below : List Frame} {meth : Method} {c : Code} {H H0 : Heap} {locs : List Loc} {cells slots : Nat} {Q : State → Prop} {A : Nat → Prop} {D : va_G} {cl : List vw_C} {tys : List (ClassId × FieldType)} {ws : va_W} {a : Nat} {cc : ByteArray} {pc : Nat} {ls : Array Slot} {rest : List Value}
/-- an int out of an array, at a numbered place -/
theorem ka_ld (hexec : p.tables.exec = Jvm.exec) (hb : c.code = cc) (hK : va_K D cl tys s) (hP : va_P D cl ws H) (q0 t0 : Nat) {cA : ClassId} {n : Nat} {f : Nat → Int32} (ha : ws[q0]? = some (a, .inl (cA, n, .inl f))) (ht : tys[t0]? = some (cA, .int)) {i : Nat} (hi : i < n) (hn : n < 2 ^ 31) {v : Int32} (hv : f i = v) (hdg : decode cc pc = .ok (.iaload, 1))
    (kk : W p l e R s m args below meth c H locs cells slots Q (F0 m (pc + 1) ls (.int v :: rest))) : W p l e R s m args below meth c H locs cells slots Q (F0 m pc ls (.int (nI i) :: .ref a :: rest)) := by
  refine va_iald hexec hb hK hP q0 t0 ha ht (vp_in_nI hi hn) hdg ?_
  rw [nI_clamp (Nat.lt_trans hi hn), hv]
  exact kk
theorem ka_zld (hexec : p.tables.exec = Jvm.exec) (hb : c.code = cc) (hK : va_K D cl tys s) (hP : va_P D cl ws H) (q0 t0 : Nat) {cA : ClassId} {n : Nat} {f : Nat → Int32} (ha : ws[q0]? = some (a, .inl (cA, n, .inl f))) (ht : tys[t0]? = some (cA, .boolean)) {i : Nat} (hi : i < n) (hn : n < 2 ^ 31) {v : Int32} (hv : f i = v) (hdg : decode cc pc = .ok (.baload, 1))
    (kk : W p l e R s m args below meth c H locs cells slots Q (F0 m (pc + 1) ls (.int v :: rest))) : W p l e R s m args below meth c H locs cells slots Q (F0 m pc ls (.int (nI i) :: .ref a :: rest)) := by
  refine va_zald hexec hb hK hP q0 t0 ha ht (vp_in_nI hi hn) hdg ?_
  rw [nI_clamp (Nat.lt_trans hi hn), hv]
  exact kk
/-- an int into an array, at a numbered place; the new contents under a name of the caller's choice -/
theorem ka_st (hexec : p.tables.exec = Jvm.exec) (hb : c.code = cc) (hK : va_K D cl tys s) (hP : va_P D cl ws H) (hD : va_D A ws) (hS : va_S A H0 H locs) (q0 t0 : Nat) {cA : ClassId} {n : Nat} {f f' : Nat → Int32} (ha : ws[q0]? = some (a, .inl (cA, n, .inl f))) (ht : tys[t0]? = some (cA, .int)) {i : Nat} {x : Int32} (hi : i < n) (hn : n < 2 ^ 31) (hf : upd f i x = f') (hdg : decode cc pc = .ok (.iastore, 1))
    (kk : ∀ (H1 : Heap) (locs1 : List Loc), va_P D cl (ws.set q0 (a, .inl (cA, n, .inl f'))) H1 → va_D A (ws.set q0 (a, .inl (cA, n, .inl f'))) → va_S A H0 H1 locs1 → W p l e R s m args below meth c H1 locs1 cells slots Q (F0 m (pc + 1) ls rest)) : W p l e R s m args below meth c H locs cells slots Q (F0 m pc ls (.int x :: .int (nI i) :: .ref a :: rest)) := by
  refine va_iast hexec hb hK hP hD hS q0 t0 ha ht (vp_in_nI hi hn) hdg (fun H1 locs1 h1 h2 h3 => ?_)
  rw [nI_clamp (Nat.lt_trans hi hn), hf] at h1 h2
  exact kk H1 locs1 h1 h2 h3
theorem ka_zst (hexec : p.tables.exec = Jvm.exec) (hb : c.code = cc) (hK : va_K D cl tys s) (hP : va_P D cl ws H) (hD : va_D A ws) (hS : va_S A H0 H locs) (q0 t0 : Nat) {cA : ClassId} {n : Nat} {f f' : Nat → Int32} (ha : ws[q0]? = some (a, .inl (cA, n, .inl f))) (ht : tys[t0]? = some (cA, .boolean)) {i : Nat} {x : Int32} (hi : i < n) (hn : n < 2 ^ 31) (hf : upd f i (vp_nar .boolean x) = f') (hdg : decode cc pc = .ok (.bastore, 1))
    (kk : ∀ (H1 : Heap) (locs1 : List Loc), va_P D cl (ws.set q0 (a, .inl (cA, n, .inl f'))) H1 → va_D A (ws.set q0 (a, .inl (cA, n, .inl f'))) → va_S A H0 H1 locs1 → W p l e R s m args below meth c H1 locs1 cells slots Q (F0 m (pc + 1) ls rest)) : W p l e R s m args below meth c H locs cells slots Q (F0 m pc ls (.int x :: .int (nI i) :: .ref a :: rest)) := by
  refine va_zast hexec hb hK hP hD hS q0 t0 ha ht (vp_in_nI hi hn) hdg (fun H1 locs1 h1 h2 h3 => ?_)
  rw [nI_clamp (Nat.lt_trans hi hn), hf] at h1 h2
  exact kk H1 locs1 h1 h2 h3
end KA
/-- contents beyond an array's length don't matter -/
theorem cell_ext {cA : ClassId} {n : Nat} {f f' : Nat → Int32} (h : ∀ i, i < n → f i = f' i) : vp_cell cA (n, .inl f) = vp_cell cA (n, .inl f') := by
  have e : (fun j : Fin n => Value.int (f j.val)) = (fun j : Fin n => Value.int (f' j.val)) := funext (fun j => by rw [h j.val j.isLt])
  simp only [vp_cell, arrV]
  rw [e]
theorem va_P_ext {D : va_G} {cl : List vw_C} {ws : va_W} {H : Heap} (q0 : Nat) {a : Nat} {cA : ClassId} {n : Nat} {f f' : Nat → Int32} (hP : va_P D cl ws H) (ha : ws[q0]? = some (a, .inl (cA, n, .inl f))) (h : ∀ i, i < n → f i = f' i) : va_P D cl (ws.set q0 (a, .inl (cA, n, .inl f'))) H := by
  intro k q hq
  by_cases hk : q0 = k
  · subst hk
    have hlt : q0 < ws.length := (List.getElem?_eq_some_iff.mp ha).1
    rw [List.getElem?_set_self hlt] at hq
    cases hq
    have h1 := hP q0 _ ha
    simp only [va_at] at h1 ⊢
    rw [h1, cell_ext h]
  · rw [List.getElem?_set_ne hk] at hq
    exact hP k q hq
theorem va_D_ext {A : Nat → Prop} {ws : va_W} (q0 : Nat) {a : Nat} {e e' : va_E} (hD : va_D A ws) (ha : ws[q0]? = some (a, e)) : va_D A (ws.set q0 (a, e')) := by
  have key : ∀ (k : Nat) (q : Nat × va_E), (ws.set q0 (a, e'))[k]? = some q → ∃ q', ws[k]? = some q' ∧ q'.1 = q.1 := by
    intro k q hq
    by_cases hk : q0 = k
    · subst hk
      have hlt : q0 < ws.length := (List.getElem?_eq_some_iff.mp ha).1
      rw [List.getElem?_set_self hlt] at hq
      cases hq
      exact ⟨_, ha, rfl⟩
    · rw [List.getElem?_set_ne hk] at hq
      exact ⟨q, hq, rfl⟩
  refine ⟨fun i j p q hi hj hpq => ?_, fun k q hq => ?_⟩
  · obtain ⟨p', h1, h2⟩ := key i p hi
    obtain ⟨q', h3, h4⟩ := key j q hj
    exact hD.1 i j p' q' h1 h3 (by rw [h2, h4, hpq])
  · obtain ⟨q', h1, h2⟩ := key k q hq
    rw [← h2]
    exact hD.2 k q' h1
theorem tb_out {x : Int32} (lo hi : Nat) (h : ∀ j : Nat, lo ≤ j → j ≤ hi → x ≠ nI j) : x.toInt < (lo : Int) ∨ (hi : Int) < x.toInt := by
  by_cases h1 : x.toInt < (lo : Int)
  · exact Or.inl h1
  · by_cases h2 : (hi : Int) < x.toInt
    · exact Or.inr h2
    · exfalso
      have hx : ¬ x < 0 := by
        rw [Int32.lt_iff_toInt_lt, Int32.toInt_zero]
        omega
      obtain ⟨j, hj, rfl⟩ := nI_of hx
      rw [nI_toInt hj] at h1 h2
      exact h j (by omega) (by omega) rfl
