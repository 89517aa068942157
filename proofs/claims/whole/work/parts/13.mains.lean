theorem dDecreePool_hasNode_0 : decode cDecreePool_hasNode 0 = .ok (.iload_n 1, 1) := by decide +kernel
theorem dDecreePool_hasNode_1 : decode cDecreePool_hasNode 1 = .ok (.iconst 0, 1) := by decide +kernel
theorem dDecreePool_hasNode_2 : decode cDecreePool_hasNode 2 = .ok (.aload_n 0, 1) := by decide +kernel
theorem dDecreePool_hasNode_3 : decode cDecreePool_hasNode 3 = .ok (.getfield 13, 3) := by decide +kernel
theorem dDecreePool_hasNode_6 : decode cDecreePool_hasNode 6 = .ok (.iconst 1, 1) := by decide +kernel
theorem dDecreePool_hasNode_7 : decode cDecreePool_hasNode 7 = .ok (.isub, 1) := by decide +kernel
theorem dDecreePool_hasNode_8 : decode cDecreePool_hasNode 8 = .ok (.invokestatic 7, 3) := by decide +kernel
theorem dDecreePool_hasNode_11 : decode cDecreePool_hasNode 11 = .ok (.ireturn, 1) := by decide +kernel
set_option maxRecDepth 100000 in
set_option maxHeartbeats 4000000 in
theorem c_hasNode (l : Launch) (D : va_G) (cI cZ : ClassId) (q : Nat → Nat) (n : Nat) (S : Nat) (P : Nat) (x : St) (v : Int32) (hn1 : 1 ≤ n) (hn5 : n ≤ 5) (hS1 : 1 ≤ S) (hS4 : S ≤ 4) (hP5 : 5 ≤ P) (hP64 : P ≤ 64) : MI l D [(cI, .int), (cZ, .boolean)] yDecreePool_hasNode wsDecreePool_hasNode ({ frames := 1, cells := 0, slots := 0, locals := 22 }) [.ref (q 0), .int v] (wX q cI n S P x) (fun r w => (r = nI 1 ∧ (okN v n) ∧ w = (wX q cI n S P x)) ∨ (r = nI 0 ∧ (¬ (okN v n)) ∧ w = (wX q cI n S P x))) := by
  intro sz
  refine Met.ofW (cc := cDecreePool_hasNode) (maxL := 2) (ret := (Option.some .boolean)) (by decide) rfl ?_
  intro p e s m args below meth c s₁ B hml hv
  obtain ⟨rfl, hsz, hP, hK, hD0, hZ⟩ := hv
  have hx := B.exec
  have hb := B.bytes
  have hr := B.returns
  have hts := atoms_spec (ws := wsDecreePool_hasNode) B.pre
  have hown : s.vm.findClass RDecreePool = some m.cls := findClass_of_methodNamed B.named
  have hlocks := B.notSynchronized
  subst hsz
  have hD := hD0.self (sz := s.heap.size)
  generalize hAe : va_A (wX q cI n S P x) s.heap.size = A at hD ⊢
  have hA : ∀ q : Nat, s.heap.size ≤ q → A q := fun q h => by rw [← hAe]; exact Or.inr h
  have hS : va_S A s.heap s.heap [] := va_S.rf
  have hP : va_P D vwCl (wX q cI n S P x) s.heap := hP
  have hl := lv_entry ([.ref (q 0), .int v]) (n := 2) (Nat.le_of_ble_eq_true rfl)
  rw [lg_entry_eq]
  generalize (lg_sl ([.ref (q 0), .int v]) ++ List.replicate (2 - (lg_sl ([.ref (q 0), .int v])).length) Slot.unset).toArray = ls at hl ⊢
  have hl : lv_has ls 2 [(0, .ref (q 0)), (1, .int v)] := hl
  refine lv_iload_n hx hb dDecreePool_hasNode_0 rfl (lv_at hl 1 rfl) ?_
  refine lv_iconst (v := nI 0) hx hb dDecreePool_hasNode_1 (by decide) ?_
  refine lv_aload_n hx hb dDecreePool_hasNode_2 rfl (lv_at hl 0 rfl) ?_
  refine va_get (D := D) (ci := 0) (v := .int (nI n)) (C := RDecreePool) (T := TDecreePool) (N := 9) hx hb hts (fun w h => mc (uDecreePool_in w h)) hown hK hP 0 rfl rfl 0 (by decide) (hts _ (mc wd105)) (fun _ h9 => h9) rfl dDecreePool_hasNode_3 ?_
  refine lv_iconst (v := nI 1) hx hb dDecreePool_hasNode_6 (by decide) ?_
  refine lv_isub hx hb dDecreePool_hasNode_7 ?_
  refine lv_topi (nm_r (pk_sub (by omega)) ?_)
  have hPc := hP.sub (ws' := ([] : va_W)) [] rfl
  have hDc := hD.sub (ws' := ([] : va_W)) [] (by decide) rfl
  refine kx_i (va_runS (As := [.int v, .int (nI 0), .int (nI (n - 1))]) (rest := []) ⟨hx, hb, hml, hown, hts⟩ ((c_isWithin l D cI cZ v (nI 0) (nI (n - 1))) s.heap.size) (va_cwS 3 hts (gS wd17 wd18 wd1 wd19) rfl rfl rfl (by decide +kernel) ⟨Nat.le_of_ble_eq_true rfl, Nat.le_of_ble_eq_true rfl⟩) ⟨fb_PW, pre_PW hK hPc hDc hZ⟩ rfl rfl hl.1 rfl (lv_room (Nat.le_of_ble_eq_true rfl)) dDecreePool_hasNode_8 ⟨Nat.zero_le _, Nat.zero_le _⟩) hP hD hS hA [] [0, 1, 2, 3, 4, 5, 6, 7, 8, 9, 10, 11, 12, 13, 14, 15] rfl rfl (by decide) (by decide) (fun r w1 H locs hw hP hD hS => ?_)
  rcases hw with ⟨rfl, h8, rfl⟩ | ⟨rfl, h8, rfl⟩
  · have hP : va_P D vwCl (wX q cI n S P x) H := hP
    have hD : va_D A (wX q cI n S P x) := hD
    exact W.zret (v := nI 1) (ty := .boolean) hx hb hr (by decide) (fun t9 ht9 hW9 => ⟨⟨nI 1, (wX q cI n S P x), rfl, Or.inl ⟨rfl, wi_ok hn1 (by omega) h8, rfl⟩, by rw [ht9]; exact hP, va_K.moved hW9.alike hK, hD⟩, hS.F ht9⟩) hS.2.2 dDecreePool_hasNode_11
  · have hP : va_P D vwCl (wX q cI n S P x) H := hP
    have hD : va_D A (wX q cI n S P x) := hD
    exact W.zret (v := nI 0) (ty := .boolean) hx hb hr (by decide) (fun t9 ht9 hW9 => ⟨⟨nI 0, (wX q cI n S P x), rfl, Or.inr ⟨rfl, wi_no (by omega) h8, rfl⟩, by rw [ht9]; exact hP, va_K.moved hW9.alike hK, hD⟩, hS.F ht9⟩) hS.2.2 dDecreePool_hasNode_11
theorem dDecreePool_hasSlot_0 : decode cDecreePool_hasSlot 0 = .ok (.iload_n 1, 1) := by decide +kernel
theorem dDecreePool_hasSlot_1 : decode cDecreePool_hasSlot 1 = .ok (.iconst 0, 1) := by decide +kernel
theorem dDecreePool_hasSlot_2 : decode cDecreePool_hasSlot 2 = .ok (.aload_n 0, 1) := by decide +kernel
theorem dDecreePool_hasSlot_3 : decode cDecreePool_hasSlot 3 = .ok (.getfield 17, 3) := by decide +kernel
theorem dDecreePool_hasSlot_6 : decode cDecreePool_hasSlot 6 = .ok (.iconst 1, 1) := by decide +kernel
theorem dDecreePool_hasSlot_7 : decode cDecreePool_hasSlot 7 = .ok (.isub, 1) := by decide +kernel
theorem dDecreePool_hasSlot_8 : decode cDecreePool_hasSlot 8 = .ok (.invokestatic 7, 3) := by decide +kernel
theorem dDecreePool_hasSlot_11 : decode cDecreePool_hasSlot 11 = .ok (.ireturn, 1) := by decide +kernel
set_option maxRecDepth 100000 in
set_option maxHeartbeats 4000000 in
theorem c_hasSlot (l : Launch) (D : va_G) (cI cZ : ClassId) (q : Nat → Nat) (n : Nat) (S : Nat) (P : Nat) (x : St) (v : Int32) (hn1 : 1 ≤ n) (hn5 : n ≤ 5) (hS1 : 1 ≤ S) (hS4 : S ≤ 4) (hP5 : 5 ≤ P) (hP64 : P ≤ 64) : MI l D [(cI, .int), (cZ, .boolean)] yDecreePool_hasSlot wsDecreePool_hasSlot ({ frames := 1, cells := 0, slots := 0, locals := 22 }) [.ref (q 0), .int v] (wX q cI n S P x) (fun r w => (r = nI 1 ∧ (okN v S) ∧ w = (wX q cI n S P x)) ∨ (r = nI 0 ∧ (¬ (okN v S)) ∧ w = (wX q cI n S P x))) := by
  intro sz
  refine Met.ofW (cc := cDecreePool_hasSlot) (maxL := 2) (ret := (Option.some .boolean)) (by decide) rfl ?_
  intro p e s m args below meth c s₁ B hml hv
  obtain ⟨rfl, hsz, hP, hK, hD0, hZ⟩ := hv
  have hx := B.exec
  have hb := B.bytes
  have hr := B.returns
  have hts := atoms_spec (ws := wsDecreePool_hasSlot) B.pre
  have hown : s.vm.findClass RDecreePool = some m.cls := findClass_of_methodNamed B.named
  have hlocks := B.notSynchronized
  subst hsz
  have hD := hD0.self (sz := s.heap.size)
  generalize hAe : va_A (wX q cI n S P x) s.heap.size = A at hD ⊢
  have hA : ∀ q : Nat, s.heap.size ≤ q → A q := fun q h => by rw [← hAe]; exact Or.inr h
  have hS : va_S A s.heap s.heap [] := va_S.rf
  have hP : va_P D vwCl (wX q cI n S P x) s.heap := hP
  have hl := lv_entry ([.ref (q 0), .int v]) (n := 2) (Nat.le_of_ble_eq_true rfl)
  rw [lg_entry_eq]
  generalize (lg_sl ([.ref (q 0), .int v]) ++ List.replicate (2 - (lg_sl ([.ref (q 0), .int v])).length) Slot.unset).toArray = ls at hl ⊢
  have hl : lv_has ls 2 [(0, .ref (q 0)), (1, .int v)] := hl
  refine lv_iload_n hx hb dDecreePool_hasSlot_0 rfl (lv_at hl 1 rfl) ?_
  refine lv_iconst (v := nI 0) hx hb dDecreePool_hasSlot_1 (by decide) ?_
  refine lv_aload_n hx hb dDecreePool_hasSlot_2 rfl (lv_at hl 0 rfl) ?_
  refine va_get (D := D) (ci := 0) (v := .int (nI S)) (C := RDecreePool) (T := TDecreePool) (N := 9) hx hb hts (fun w h => mc (uDecreePool_in w h)) hown hK hP 0 rfl rfl 1 (by decide) (hts _ (mc wd106)) (fun _ h9 => h9) rfl dDecreePool_hasSlot_3 ?_
  refine lv_iconst (v := nI 1) hx hb dDecreePool_hasSlot_6 (by decide) ?_
  refine lv_isub hx hb dDecreePool_hasSlot_7 ?_
  refine lv_topi (nm_r (pk_sub (by omega)) ?_)
  have hPc := hP.sub (ws' := ([] : va_W)) [] rfl
  have hDc := hD.sub (ws' := ([] : va_W)) [] (by decide) rfl
  refine kx_i (va_runS (As := [.int v, .int (nI 0), .int (nI (S - 1))]) (rest := []) ⟨hx, hb, hml, hown, hts⟩ ((c_isWithin l D cI cZ v (nI 0) (nI (S - 1))) s.heap.size) (va_cwS 3 hts (gS wd17 wd18 wd1 wd19) rfl rfl rfl (by decide +kernel) ⟨Nat.le_of_ble_eq_true rfl, Nat.le_of_ble_eq_true rfl⟩) ⟨fb_PW, pre_PW hK hPc hDc hZ⟩ rfl rfl hl.1 rfl (lv_room (Nat.le_of_ble_eq_true rfl)) dDecreePool_hasSlot_8 ⟨Nat.zero_le _, Nat.zero_le _⟩) hP hD hS hA [] [0, 1, 2, 3, 4, 5, 6, 7, 8, 9, 10, 11, 12, 13, 14, 15] rfl rfl (by decide) (by decide) (fun r w1 H locs hw hP hD hS => ?_)
  rcases hw with ⟨rfl, h8, rfl⟩ | ⟨rfl, h8, rfl⟩
  · have hP : va_P D vwCl (wX q cI n S P x) H := hP
    have hD : va_D A (wX q cI n S P x) := hD
    exact W.zret (v := nI 1) (ty := .boolean) hx hb hr (by decide) (fun t9 ht9 hW9 => ⟨⟨nI 1, (wX q cI n S P x), rfl, Or.inl ⟨rfl, wi_ok hS1 (by omega) h8, rfl⟩, by rw [ht9]; exact hP, va_K.moved hW9.alike hK, hD⟩, hS.F ht9⟩) hS.2.2 dDecreePool_hasSlot_11
  · have hP : va_P D vwCl (wX q cI n S P x) H := hP
    have hD : va_D A (wX q cI n S P x) := hD
    exact W.zret (v := nI 0) (ty := .boolean) hx hb hr (by decide) (fun t9 ht9 hW9 => ⟨⟨nI 0, (wX q cI n S P x), rfl, Or.inr ⟨rfl, wi_no (by omega) h8, rfl⟩, by rw [ht9]; exact hP, va_K.moved hW9.alike hK, hD⟩, hS.F ht9⟩) hS.2.2 dDecreePool_hasSlot_11
theorem dDecreePool_hasSeat_0 : decode cDecreePool_hasSeat 0 = .ok (.aload_n 0, 1) := by decide +kernel
theorem dDecreePool_hasSeat_1 : decode cDecreePool_hasSeat 1 = .ok (.iload_n 1, 1) := by decide +kernel
theorem dDecreePool_hasSeat_2 : decode cDecreePool_hasSeat 2 = .ok (.invokevirtual 110, 3) := by decide +kernel
theorem dDecreePool_hasSeat_5 : decode cDecreePool_hasSeat 5 = .ok (.ifCond .eq 15, 3) := by decide +kernel
theorem dDecreePool_hasSeat_8 : decode cDecreePool_hasSeat 8 = .ok (.aload_n 0, 1) := by decide +kernel
theorem dDecreePool_hasSeat_9 : decode cDecreePool_hasSeat 9 = .ok (.iload_n 2, 1) := by decide +kernel
theorem dDecreePool_hasSeat_10 : decode cDecreePool_hasSeat 10 = .ok (.invokevirtual 149, 3) := by decide +kernel
theorem dDecreePool_hasSeat_13 : decode cDecreePool_hasSeat 13 = .ok (.ifCond .eq 7, 3) := by decide +kernel
theorem dDecreePool_hasSeat_16 : decode cDecreePool_hasSeat 16 = .ok (.iconst 1, 1) := by decide +kernel
theorem dDecreePool_hasSeat_17 : decode cDecreePool_hasSeat 17 = .ok (.goto 4, 3) := by decide +kernel
theorem dDecreePool_hasSeat_20 : decode cDecreePool_hasSeat 20 = .ok (.iconst 0, 1) := by decide +kernel
theorem dDecreePool_hasSeat_21 : decode cDecreePool_hasSeat 21 = .ok (.ireturn, 1) := by decide +kernel
set_option maxRecDepth 100000 in
set_option maxHeartbeats 4000000 in
theorem c_hasSeat (l : Launch) (D : va_G) (cI cZ : ClassId) (q : Nat → Nat) (n : Nat) (S : Nat) (P : Nat) (x : St) (v : Int32) (u : Int32) (hn1 : 1 ≤ n) (hn5 : n ≤ 5) (hS1 : 1 ≤ S) (hS4 : S ≤ 4) (hP5 : 5 ≤ P) (hP64 : P ≤ 64) : MI l D [(cI, .int), (cZ, .boolean)] yDecreePool_hasSeat wsDecreePool_hasSeat ({ frames := 2, cells := 0, slots := 0, locals := 43 }) [.ref (q 0), .int v, .int u] (wX q cI n S P x) (fun r w => (r = nI 1 ∧ (okN v n ∧ okN u S) ∧ w = (wX q cI n S P x)) ∨ (r = nI 0 ∧ (¬ (okN v n ∧ okN u S)) ∧ w = (wX q cI n S P x))) := by
  intro sz
  refine Met.ofW (cc := cDecreePool_hasSeat) (maxL := 3) (ret := (Option.some .boolean)) (by decide) rfl ?_
  intro p e s m args below meth c s₁ B hml hv
  obtain ⟨rfl, hsz, hP, hK, hD0, hZ⟩ := hv
  have hx := B.exec
  have hb := B.bytes
  have hr := B.returns
  have hts := atoms_spec (ws := wsDecreePool_hasSeat) B.pre
  have hown : s.vm.findClass RDecreePool = some m.cls := findClass_of_methodNamed B.named
  have hlocks := B.notSynchronized
  subst hsz
  have hD := hD0.self (sz := s.heap.size)
  generalize hAe : va_A (wX q cI n S P x) s.heap.size = A at hD ⊢
  have hA : ∀ q : Nat, s.heap.size ≤ q → A q := fun q h => by rw [← hAe]; exact Or.inr h
  have hS : va_S A s.heap s.heap [] := va_S.rf
  have hP : va_P D vwCl (wX q cI n S P x) s.heap := hP
  have hl := lv_entry ([.ref (q 0), .int v, .int u]) (n := 3) (Nat.le_of_ble_eq_true rfl)
  rw [lg_entry_eq]
  generalize (lg_sl ([.ref (q 0), .int v, .int u]) ++ List.replicate (3 - (lg_sl ([.ref (q 0), .int v, .int u])).length) Slot.unset).toArray = ls at hl ⊢
  have hl : lv_has ls 3 [(0, .ref (q 0)), (1, .int v), (2, .int u)] := hl
  refine lv_aload_n hx hb dDecreePool_hasSeat_0 rfl (lv_at hl 0 rfl) ?_
  refine lv_iload_n hx hb dDecreePool_hasSeat_1 rfl (lv_at hl 1 rfl) ?_
  have hPc := hP.sub (ws' := (wX q cI n S P x)) [0, 1, 2, 3, 4, 5, 6, 7, 8, 9, 10, 11, 12, 13, 14, 15] rfl
  have hDc := hD.sub (ws' := (wX q cI n S P x)) [0, 1, 2, 3, 4, 5, 6, 7, 8, 9, 10, 11, 12, 13, 14, 15] (by decide) rfl
  refine kx_i (va_runV (As := [.int v]) (rest := []) ⟨hx, hb, hml, hown, hts⟩ ((c_hasNode l D cI cZ q n S P x v (hn1) (hn5) (hS1) (hS4) (hP5) (hP64)) s.heap.size) (cwV 1 hts (gV wd141 wd143 sl_DecreePool_hasNode wd1 wd144) rfl rfl rfl (by decide +kernel) ⟨Nat.le_of_ble_eq_true rfl, Nat.le_of_ble_eq_true rfl⟩) ⟨fb_PW, va_recv (q0 := 0) (ci := 0) hK hPc rfl rfl, pre_PW hK hPc hDc hZ⟩ rfl rfl hl.1 rfl (lv_room (Nat.le_of_ble_eq_true rfl)) dDecreePool_hasSeat_2 ⟨Nat.zero_le _, Nat.zero_le _⟩) hP hD hS hA [0, 1, 2, 3, 4, 5, 6, 7, 8, 9, 10, 11, 12, 13, 14, 15] [] rfl rfl (by decide) (by decide) (fun r w1 H locs hw hP hD hS => ?_)
  rcases hw with ⟨rfl, h2, rfl⟩ | ⟨rfl, h2, rfl⟩
  · have hP : va_P D vwCl (wX q cI n S P x) H := hP
    have hD : va_D A (wX q cI n S P x) := hD
    refine lv_if_eq (tgt := 20) hx hb dDecreePool_hasSeat_5 (by decide) (fun h9 => absurd h9 (by decide)) (fun _ => ?_)
    refine lv_aload_n hx hb dDecreePool_hasSeat_8 rfl (lv_at hl 0 rfl) ?_
    refine lv_iload_n hx hb dDecreePool_hasSeat_9 rfl (lv_at hl 2 rfl) ?_
    have hPc := hP.sub (ws' := (wX q cI n S P x)) [0, 1, 2, 3, 4, 5, 6, 7, 8, 9, 10, 11, 12, 13, 14, 15] rfl
    have hDc := hD.sub (ws' := (wX q cI n S P x)) [0, 1, 2, 3, 4, 5, 6, 7, 8, 9, 10, 11, 12, 13, 14, 15] (by decide) rfl
    refine kx_i (va_runV (As := [.int u]) (rest := []) ⟨hx, hb, hml, hown, hts⟩ ((c_hasSlot l D cI cZ q n S P x u (hn1) (hn5) (hS1) (hS4) (hP5) (hP64)) H.size) (cwV 1 hts (gV wd145 wd147 sl_DecreePool_hasSlot wd1 wd148) rfl rfl rfl (by decide +kernel) ⟨Nat.le_of_ble_eq_true rfl, Nat.le_of_ble_eq_true rfl⟩) ⟨fb_PW, va_recv (q0 := 0) (ci := 0) hK hPc rfl rfl, pre_PW hK hPc hDc hZ⟩ rfl rfl hl.1 rfl (lv_room (Nat.le_of_ble_eq_true rfl)) dDecreePool_hasSeat_10 ⟨Nat.zero_le _, Nat.zero_le _⟩) hP hD hS hA [0, 1, 2, 3, 4, 5, 6, 7, 8, 9, 10, 11, 12, 13, 14, 15] [] rfl rfl (by decide) (by decide) (fun r w1 H locs hw hP hD hS => ?_)
    rcases hw with ⟨rfl, h10, rfl⟩ | ⟨rfl, h10, rfl⟩
    · have hP : va_P D vwCl (wX q cI n S P x) H := hP
      have hD : va_D A (wX q cI n S P x) := hD
      refine lv_if_eq (tgt := 20) hx hb dDecreePool_hasSeat_13 (by decide) (fun h9 => absurd h9 (by decide)) (fun _ => ?_)
      refine lv_iconst (v := nI 1) hx hb dDecreePool_hasSeat_16 (by decide) ?_
      refine lv_goto (tgt := 21) hx hb dDecreePool_hasSeat_17 (by decide) ?_
      exact W.zret (v := nI 1) (ty := .boolean) hx hb hr (by decide) (fun t9 ht9 hW9 => ⟨⟨nI 1, (wX q cI n S P x), rfl, Or.inl ⟨rfl, ⟨h2, h10⟩, rfl⟩, by rw [ht9]; exact hP, va_K.moved hW9.alike hK, hD⟩, hS.F ht9⟩) hS.2.2 dDecreePool_hasSeat_21
    · have hP : va_P D vwCl (wX q cI n S P x) H := hP
      have hD : va_D A (wX q cI n S P x) := hD
      refine lv_if_eq (tgt := 20) hx hb dDecreePool_hasSeat_13 (by decide) (fun _ => ?_) (fun h9 => absurd (by decide) h9)
      refine lv_iconst (v := nI 0) hx hb dDecreePool_hasSeat_20 (by decide) ?_
      exact W.zret (v := nI 0) (ty := .boolean) hx hb hr (by decide) (fun t9 ht9 hW9 => ⟨⟨nI 0, (wX q cI n S P x), rfl, Or.inr ⟨rfl, fun h => h10 h.2, rfl⟩, by rw [ht9]; exact hP, va_K.moved hW9.alike hK, hD⟩, hS.F ht9⟩) hS.2.2 dDecreePool_hasSeat_21
  · have hP : va_P D vwCl (wX q cI n S P x) H := hP
    have hD : va_D A (wX q cI n S P x) := hD
    refine lv_if_eq (tgt := 20) hx hb dDecreePool_hasSeat_5 (by decide) (fun _ => ?_) (fun h9 => absurd (by decide) h9)
    refine lv_iconst (v := nI 0) hx hb dDecreePool_hasSeat_20 (by decide) ?_
    exact W.zret (v := nI 0) (ty := .boolean) hx hb hr (by decide) (fun t9 ht9 hW9 => ⟨⟨nI 0, (wX q cI n S P x), rfl, Or.inr ⟨rfl, fun h => h2 h.1, rfl⟩, by rw [ht9]; exact hP, va_K.moved hW9.alike hK, hD⟩, hS.F ht9⟩) hS.2.2 dDecreePool_hasSeat_21
theorem dDecreePool_seatOf_0 : decode cDecreePool_seatOf 0 = .ok (.iload_n 1, 1) := by decide +kernel
theorem dDecreePool_seatOf_1 : decode cDecreePool_seatOf 1 = .ok (.aload_n 0, 1) := by decide +kernel
theorem dDecreePool_seatOf_2 : decode cDecreePool_seatOf 2 = .ok (.getfield 17, 3) := by decide +kernel
theorem dDecreePool_seatOf_5 : decode cDecreePool_seatOf 5 = .ok (.imul, 1) := by decide +kernel
theorem dDecreePool_seatOf_6 : decode cDecreePool_seatOf 6 = .ok (.iload_n 2, 1) := by decide +kernel
theorem dDecreePool_seatOf_7 : decode cDecreePool_seatOf 7 = .ok (.iadd, 1) := by decide +kernel
theorem dDecreePool_seatOf_8 : decode cDecreePool_seatOf 8 = .ok (.ireturn, 1) := by decide +kernel
set_option maxRecDepth 100000 in
set_option maxHeartbeats 4000000 in
theorem c_seatOf (l : Launch) (D : va_G) (cI cZ : ClassId) (q : Nat → Nat) (n : Nat) (S : Nat) (P : Nat) (x : St) (a : Nat) (t : Nat) (hn1 : 1 ≤ n) (hn5 : n ≤ 5) (hS1 : 1 ≤ S) (hS4 : S ≤ 4) (hP5 : 5 ≤ P) (hP64 : P ≤ 64) : MI l D [(cI, .int), (cZ, .boolean)] yDecreePool_seatOf wsDecreePool_seatOf ({ frames := 0, cells := 0, slots := 0, locals := 0 }) [.ref (q 0), .int (nI a), .int (nI t)] (wX q cI n S P x) (fun r w => r = nI (a * S + t) ∧ w = (wX q cI n S P x)) := by
  intro sz
  refine Met.ofW (cc := cDecreePool_seatOf) (maxL := 3) (ret := (Option.some .int)) (by decide) rfl ?_
  intro p e s m args below meth c s₁ B hml hv
  obtain ⟨rfl, hsz, hP, hK, hD0, hZ⟩ := hv
  have hx := B.exec
  have hb := B.bytes
  have hr := B.returns
  have hts := atoms_spec (ws := wsDecreePool_seatOf) B.pre
  have hown : s.vm.findClass RDecreePool = some m.cls := findClass_of_methodNamed B.named
  have hlocks := B.notSynchronized
  subst hsz
  have hD := hD0.self (sz := s.heap.size)
  generalize hAe : va_A (wX q cI n S P x) s.heap.size = A at hD ⊢
  have hA : ∀ q : Nat, s.heap.size ≤ q → A q := fun q h => by rw [← hAe]; exact Or.inr h
  have hS : va_S A s.heap s.heap [] := va_S.rf
  have hP : va_P D vwCl (wX q cI n S P x) s.heap := hP
  have hl := lv_entry ([.ref (q 0), .int (nI a), .int (nI t)]) (n := 3) (Nat.le_of_ble_eq_true rfl)
  rw [lg_entry_eq]
  generalize (lg_sl ([.ref (q 0), .int (nI a), .int (nI t)]) ++ List.replicate (3 - (lg_sl ([.ref (q 0), .int (nI a), .int (nI t)])).length) Slot.unset).toArray = ls at hl ⊢
  have hl : lv_has ls 3 [(0, .ref (q 0)), (1, .int (nI a)), (2, .int (nI t))] := hl
  refine lv_iload_n hx hb dDecreePool_seatOf_0 rfl (lv_at hl 1 rfl) ?_
  refine lv_aload_n hx hb dDecreePool_seatOf_1 rfl (lv_at hl 0 rfl) ?_
  refine va_get (D := D) (ci := 0) (v := .int (nI S)) (C := RDecreePool) (T := TDecreePool) (N := 9) hx hb hts (fun w h => mc (uDecreePool_in w h)) hown hK hP 0 rfl rfl 1 (by decide) (hts _ (mc wd106)) (fun _ h9 => h9) rfl dDecreePool_seatOf_2 ?_
  refine lv_imul hx hb dDecreePool_seatOf_5 ?_
  refine lv_topi (nm_r (pk_mul _ _) ?_)
  refine lv_iload_n hx hb dDecreePool_seatOf_6 rfl (lv_at hl 2 rfl) ?_
  refine lv_iadd hx hb dDecreePool_seatOf_7 ?_
  refine lv_topi (nm_r (nI_add _ _) ?_)
  exact W.iret (v := nI (a * S + t)) hx hb hr (fun t9 ht9 hW9 => ⟨⟨nI (a * S + t), (wX q cI n S P x), rfl, ⟨rfl, rfl⟩, by rw [ht9]; exact hP, va_K.moved hW9.alike hK, hD⟩, hS.F ht9⟩) hS.2.2 dDecreePool_seatOf_8
theorem dDecreePool_isUp_0 : decode cDecreePool_isUp 0 = .ok (.aload_n 0, 1) := by decide +kernel
theorem dDecreePool_isUp_1 : decode cDecreePool_isUp 1 = .ok (.getfield 52, 3) := by decide +kernel
theorem dDecreePool_isUp_4 : decode cDecreePool_isUp 4 = .ok (.iload_n 1, 1) := by decide +kernel
theorem dDecreePool_isUp_5 : decode cDecreePool_isUp 5 = .ok (.ishr, 1) := by decide +kernel
theorem dDecreePool_isUp_6 : decode cDecreePool_isUp 6 = .ok (.iconst 1, 1) := by decide +kernel
theorem dDecreePool_isUp_7 : decode cDecreePool_isUp 7 = .ok (.iand, 1) := by decide +kernel
theorem dDecreePool_isUp_8 : decode cDecreePool_isUp 8 = .ok (.iconst 1, 1) := by decide +kernel
theorem dDecreePool_isUp_9 : decode cDecreePool_isUp 9 = .ok (.if_icmp .ne 7, 3) := by decide +kernel
theorem dDecreePool_isUp_12 : decode cDecreePool_isUp 12 = .ok (.iconst 1, 1) := by decide +kernel
theorem dDecreePool_isUp_13 : decode cDecreePool_isUp 13 = .ok (.goto 4, 3) := by decide +kernel
theorem dDecreePool_isUp_16 : decode cDecreePool_isUp 16 = .ok (.iconst 0, 1) := by decide +kernel
theorem dDecreePool_isUp_17 : decode cDecreePool_isUp 17 = .ok (.ireturn, 1) := by decide +kernel
set_option maxRecDepth 100000 in
set_option maxHeartbeats 4000000 in
theorem c_isUp (l : Launch) (D : va_G) (cI cZ : ClassId) (q : Nat → Nat) (n : Nat) (S : Nat) (P : Nat) (x : St) (a : Nat) (hn1 : 1 ≤ n) (hn5 : n ≤ 5) (hS1 : 1 ≤ S) (hS4 : S ≤ 4) (hP5 : 5 ≤ P) (hP64 : P ≤ 64) (ha : a < n) : MI l D [(cI, .int), (cZ, .boolean)] yDecreePool_isUp wsDecreePool_isUp ({ frames := 0, cells := 0, slots := 0, locals := 0 }) [.ref (q 0), .int (nI a)] (wX q cI n S P x) (fun r w => (r = nI 1 ∧ (x.1 13 a 0 = 0) ∧ w = (wX q cI n S P x)) ∨ (r = nI 0 ∧ (¬ (x.1 13 a 0 = 0)) ∧ w = (wX q cI n S P x))) := by
  intro sz
  refine Met.ofW (cc := cDecreePool_isUp) (maxL := 2) (ret := (Option.some .boolean)) (by decide) rfl ?_
  intro p e s m args below meth c s₁ B hml hv
  obtain ⟨rfl, hsz, hP, hK, hD0, hZ⟩ := hv
  have hx := B.exec
  have hb := B.bytes
  have hr := B.returns
  have hts := atoms_spec (ws := wsDecreePool_isUp) B.pre
  have hown : s.vm.findClass RDecreePool = some m.cls := findClass_of_methodNamed B.named
  have hlocks := B.notSynchronized
  subst hsz
  have hD := hD0.self (sz := s.heap.size)
  generalize hAe : va_A (wX q cI n S P x) s.heap.size = A at hD ⊢
  have hA : ∀ q : Nat, s.heap.size ≤ q → A q := fun q h => by rw [← hAe]; exact Or.inr h
  have hS : va_S A s.heap s.heap [] := va_S.rf
  have hP : va_P D vwCl (wX q cI n S P x) s.heap := hP
  have hl := lv_entry ([.ref (q 0), .int (nI a)]) (n := 2) (Nat.le_of_ble_eq_true rfl)
  rw [lg_entry_eq]
  generalize (lg_sl ([.ref (q 0), .int (nI a)]) ++ List.replicate (2 - (lg_sl ([.ref (q 0), .int (nI a)])).length) Slot.unset).toArray = ls at hl ⊢
  have hl : lv_has ls 2 [(0, .ref (q 0)), (1, .int (nI a))] := hl
  refine lv_aload_n hx hb dDecreePool_isUp_0 rfl (lv_at hl 0 rfl) ?_
  refine va_get (D := D) (ci := 0) (v := .int (nI (msk (col (x.1 13) 0) n))) (C := RDecreePool) (T := TDecreePool) (N := 9) hx hb hts (fun w h => mc (uDecreePool_in w h)) hown hK hP 0 rfl rfl 6 (by decide) (hts _ (mc wd111)) (fun _ h9 => h9) rfl dDecreePool_isUp_1 ?_
  refine lv_iload_n hx hb dDecreePool_isUp_4 rfl (lv_at hl 1 rfl) ?_
  refine lv_ishr hx hb dDecreePool_isUp_5 ?_
  refine lv_iconst (v := nI 1) hx hb dDecreePool_isUp_6 (by decide) ?_
  refine lv_iand hx hb dDecreePool_isUp_7 ?_
  refine lv_topi (nm_r (up_val ha hn5) ?_)
  refine lv_iconst (v := nI 1) hx hb dDecreePool_isUp_8 (by decide) ?_
  refine lv_icmp_ne (tgt := 16) hx hb dDecreePool_isUp_9 (by decide) (fun c9 => ?_) (fun c9 => ?_)
  · refine lv_iconst (v := nI 0) hx hb dDecreePool_isUp_16 (by decide) ?_
    exact W.zret (v := nI 0) (ty := .boolean) hx hb hr (by decide) (fun t9 ht9 hW9 => ⟨⟨nI 0, (wX q cI n S P x), rfl, Or.inr ⟨rfl, fun h => c9 (if_pos h), rfl⟩, by rw [ht9]; exact hP, va_K.moved hW9.alike hK, hD⟩, hS.F ht9⟩) hS.2.2 dDecreePool_isUp_17
  · refine lv_iconst (v := nI 1) hx hb dDecreePool_isUp_12 (by decide) ?_
    refine lv_goto (tgt := 17) hx hb dDecreePool_isUp_13 (by decide) ?_
    exact W.zret (v := nI 1) (ty := .boolean) hx hb hr (by decide) (fun t9 ht9 hW9 => ⟨⟨nI 1, (wX q cI n S P x), rfl, Or.inl ⟨rfl, ite_1 c9, rfl⟩, by rw [ht9]; exact hP, va_K.moved hW9.alike hK, hD⟩, hS.F ht9⟩) hS.2.2 dDecreePool_isUp_17
theorem dDecreePool_prefixLength_0 : decode cDecreePool_prefixLength 0 = .ok (.iconst 0, 1) := by decide +kernel
theorem dDecreePool_prefixLength_1 : decode cDecreePool_prefixLength 1 = .ok (.istore_n 2, 1) := by decide +kernel
theorem dDecreePool_prefixLength_2 : decode cDecreePool_prefixLength 2 = .ok (.iload_n 2, 1) := by decide +kernel
theorem dDecreePool_prefixLength_3 : decode cDecreePool_prefixLength 3 = .ok (.aload_n 0, 1) := by decide +kernel
theorem dDecreePool_prefixLength_4 : decode cDecreePool_prefixLength 4 = .ok (.getfield 17, 3) := by decide +kernel
theorem dDecreePool_prefixLength_7 : decode cDecreePool_prefixLength 7 = .ok (.if_icmp .ge 25, 3) := by decide +kernel
theorem dDecreePool_prefixLength_10 : decode cDecreePool_prefixLength 10 = .ok (.aload_n 0, 1) := by decide +kernel
theorem dDecreePool_prefixLength_11 : decode cDecreePool_prefixLength 11 = .ok (.getfield 48, 3) := by decide +kernel
theorem dDecreePool_prefixLength_14 : decode cDecreePool_prefixLength 14 = .ok (.aload_n 0, 1) := by decide +kernel
theorem dDecreePool_prefixLength_15 : decode cDecreePool_prefixLength 15 = .ok (.iload_n 1, 1) := by decide +kernel
theorem dDecreePool_prefixLength_16 : decode cDecreePool_prefixLength 16 = .ok (.iload_n 2, 1) := by decide +kernel
theorem dDecreePool_prefixLength_17 : decode cDecreePool_prefixLength 17 = .ok (.invokevirtual 69, 3) := by decide +kernel
theorem dDecreePool_prefixLength_20 : decode cDecreePool_prefixLength 20 = .ok (.invokevirtual 122, 3) := by decide +kernel
theorem dDecreePool_prefixLength_23 : decode cDecreePool_prefixLength 23 = .ok (.ifCond .eq 9, 3) := by decide +kernel
theorem dDecreePool_prefixLength_26 : decode cDecreePool_prefixLength 26 = .ok (.iinc 2  1, 3) := by decide +kernel
theorem dDecreePool_prefixLength_29 : decode cDecreePool_prefixLength 29 = .ok (.goto (-27), 3) := by decide +kernel
theorem dDecreePool_prefixLength_32 : decode cDecreePool_prefixLength 32 = .ok (.iload_n 2, 1) := by decide +kernel
theorem dDecreePool_prefixLength_33 : decode cDecreePool_prefixLength 33 = .ok (.ireturn, 1) := by decide +kernel
set_option maxRecDepth 100000 in
set_option maxHeartbeats 4000000 in
theorem c_pfxLength (l : Launch) (D : va_G) (cI cZ : ClassId) (q : Nat → Nat) (n : Nat) (S : Nat) (P : Nat) (x : St) (a : Nat) (hn1 : 1 ≤ n) (hn5 : n ≤ 5) (hS1 : 1 ≤ S) (hS4 : S ≤ 4) (hP5 : 5 ≤ P) (hP64 : P ≤ 64) (ha : a < n) : MI l D [(cI, .int), (cZ, .boolean)] yDecreePool_prefixLength wsDecreePool_prefixLength ({ frames := 1, cells := 0, slots := 0, locals := 22 }) [.ref (q 0), .int (nI a)] (wX q cI n S P x) (fun r w => r = nI (lst (x.1 11 a) S 0) ∧ w = (wX q cI n S P x)) := by
  intro sz
  refine Met.ofW (cc := cDecreePool_prefixLength) (maxL := 3) (ret := (Option.some .int)) (by decide) rfl ?_
  intro p e s m args below meth c s₁ B hml hv
  obtain ⟨rfl, hsz, hP, hK, hD0, hZ⟩ := hv
  have hx := B.exec
  have hb := B.bytes
  have hr := B.returns
  have hts := atoms_spec (ws := wsDecreePool_prefixLength) B.pre
  have hown : s.vm.findClass RDecreePool = some m.cls := findClass_of_methodNamed B.named
  have hlocks := B.notSynchronized
  subst hsz
  have hD := hD0.self (sz := s.heap.size)
  generalize hAe : va_A (wX q cI n S P x) s.heap.size = A at hD ⊢
  have hA : ∀ q : Nat, s.heap.size ≤ q → A q := fun q h => by rw [← hAe]; exact Or.inr h
  have hS : va_S A s.heap s.heap [] := va_S.rf
  have hP : va_P D vwCl (wX q cI n S P x) s.heap := hP
  have hl := lv_entry ([.ref (q 0), .int (nI a)]) (n := 3) (Nat.le_of_ble_eq_true rfl)
  rw [lg_entry_eq]
  generalize (lg_sl ([.ref (q 0), .int (nI a)]) ++ List.replicate (3 - (lg_sl ([.ref (q 0), .int (nI a)])).length) Slot.unset).toArray = ls at hl ⊢
  have hl : lv_has ls 3 [(0, .ref (q 0)), (1, .int (nI a))] := hl
  refine lv_iconst (v := nI 0) hx hb dDecreePool_prefixLength_0 (by decide) ?_
  refine lv_istore_n hx hb dDecreePool_prefixLength_1 rfl hl (by decide) rfl (fun ls hl => ?_)
  have hl : lv_has ls 3 [(2, .int (nI 0)), (0, .ref (q 0)), (1, .int (nI a))] := hl
  have loop2 : ∀ (d2 i : Nat) (ls : Array Slot) (H : Heap) (locs : List Loc), i + d2 = S → lst (x.1 11 a) d2 i = lst (x.1 11 a) S 0 → lv_has ls 3 [(2, .int (nI i)), (0, .ref (q 0)), (1, .int (nI a))] → va_P D vwCl (wX q cI n S P x) H → va_D A (wX q cI n S P x) → va_S A s.heap H locs → W p l e (headSpec wsDecreePool_prefixLength { frames := 1, cells := 0, slots := 0, locals := 22 }).room s m [.ref (q 0), .int (nI a)].toArray below meth c H locs 0 0 (MQ below (va_Qi (fun r w => r = nI (lst (x.1 11 a) S 0) ∧ w = (wX q cI n S P x)) (QW D [(cI, .int), (cZ, .boolean)] A) A) [.ref (q 0), .int (nI a)].toArray s 0 0 A) (F0 m 2 ls []) := by
    intro d2
    induction d2 with
    | zero =>
      intro i ls H locs hid2 hF hl hP hD hS
      refine lv_iload_n hx hb dDecreePool_prefixLength_2 rfl (lv_at hl 0 rfl) ?_
      refine lv_aload_n hx hb dDecreePool_prefixLength_3 rfl (lv_at hl 1 rfl) ?_
      refine va_get (D := D) (ci := 0) (v := .int (nI S)) (C := RDecreePool) (T := TDecreePool) (N := 9) hx hb hts (fun w h => mc (uDecreePool_in w h)) hown hK hP 0 rfl rfl 1 (by decide) (hts _ (mc wd106)) (fun _ h9 => h9) rfl dDecreePool_prefixLength_4 ?_
      refine lv_icmp_ge (tgt := 32) hx hb dDecreePool_prefixLength_7 (by decide) (fun _ => ?_) (fun h9 => absurd (nI_le (by omega) (by omega)) h9)
      refine lv_iload_n hx hb dDecreePool_prefixLength_32 rfl (lv_at hl 0 rfl) ?_
      have hFi : i = lst (x.1 11 a) S 0 := hF
      rw [hFi]
      exact W.iret (v := nI (lst (x.1 11 a) S 0)) hx hb hr (fun t9 ht9 hW9 => ⟨⟨nI (lst (x.1 11 a) S 0), (wX q cI n S P x), rfl, ⟨rfl, rfl⟩, by rw [ht9]; exact hP, va_K.moved hW9.alike hK, hD⟩, hS.F ht9⟩) hS.2.2 dDecreePool_prefixLength_33
    | succ d2 ih2 =>
      intro i ls H locs hid2 hF hl hP hD hS
      refine lv_iload_n hx hb dDecreePool_prefixLength_2 rfl (lv_at hl 0 rfl) ?_
      refine lv_aload_n hx hb dDecreePool_prefixLength_3 rfl (lv_at hl 1 rfl) ?_
      refine va_get (D := D) (ci := 0) (v := .int (nI S)) (C := RDecreePool) (T := TDecreePool) (N := 9) hx hb hts (fun w h => mc (uDecreePool_in w h)) hown hK hP 0 rfl rfl 1 (by decide) (hts _ (mc wd106)) (fun _ h9 => h9) rfl dDecreePool_prefixLength_4 ?_
      refine lv_icmp_ge (tgt := 32) hx hb dDecreePool_prefixLength_7 (by decide) (fun h9 => absurd h9 (nI_ge (by omega) (by omega))) (fun _ => ?_)
      refine lv_aload_n hx hb dDecreePool_prefixLength_10 rfl (lv_at hl 1 rfl) ?_
      refine va_get (D := D) (ci := 0) (v := .ref (q 13)) (C := RDecreePool) (T := TDecreePool) (N := 9) hx hb hts (fun w h => mc (uDecreePool_in w h)) hown hK hP 0 rfl rfl 5 (by decide) (hts _ (mc wd110)) (fun _ h9 => h9) rfl dDecreePool_prefixLength_11 ?_
      refine lv_aload_n hx hb dDecreePool_prefixLength_14 rfl (lv_at hl 1 rfl) ?_
      refine lv_iload_n hx hb dDecreePool_prefixLength_15 rfl (lv_at hl 2 rfl) ?_
      refine lv_iload_n hx hb dDecreePool_prefixLength_16 rfl (lv_at hl 0 rfl) ?_
      have hPc := hP.sub (ws' := (wX q cI n S P x)) [0, 1, 2, 3, 4, 5, 6, 7, 8, 9, 10, 11, 12, 13, 14, 15] rfl
      have hDc := hD.sub (ws' := (wX q cI n S P x)) [0, 1, 2, 3, 4, 5, 6, 7, 8, 9, 10, 11, 12, 13, 14, 15] (by decide) rfl
      refine kx_i (va_runV (As := [.int (nI a), .int (nI i)]) (rest := [.ref (q 13)]) ⟨hx, hb, hml, hown, hts⟩ ((c_seatOf l D cI cZ q n S P x a i (hn1) (hn5) (hS1) (hS4) (hP5) (hP64)) H.size) (cwV 2 hts (gV wd153 wd155 sl_DecreePool_seatOf wd1 wd156) rfl rfl rfl (by decide +kernel) ⟨Nat.le_of_ble_eq_true rfl, Nat.le_of_ble_eq_true rfl⟩) ⟨fb_PW, va_recv (q0 := 0) (ci := 0) hK hPc rfl rfl, pre_PW hK hPc hDc hZ⟩ rfl rfl hl.1 rfl (lv_room (Nat.le_of_ble_eq_true rfl)) dDecreePool_prefixLength_17 ⟨Nat.zero_le _, Nat.zero_le _⟩) hP hD hS hA [0, 1, 2, 3, 4, 5, 6, 7, 8, 9, 10, 11, 12, 13, 14, 15] [] rfl rfl (by decide) (by decide) (fun r w1 H locs hw hP hD hS => ?_)
      obtain ⟨rfl, rfl⟩ := hw
      have hP : va_P D vwCl (wX q cI n S P x) H := hP
      have hD : va_D A (wX q cI n S P x) := hD
      have hPc := hP.sub (ws' := (wLe q cI n (n * S) (hq n S (x.2 0)) (sq S (x.1 11)))) [13, 14, 15] rfl
      have hDc := hD.sub (ws' := (wLe q cI n (n * S) (hq n S (x.2 0)) (sq S (x.1 11)))) [13, 14, 15] (by decide) rfl
      refine kx_i (va_runV (As := [.int (nI (a * S + i))]) (rest := []) ⟨hx, hb, hml, hown, hts⟩ ((c_decree l D cI cZ q n (n * S) (hq n S (x.2 0)) (sq S (x.1 11)) (a * S + i) (L20 hn5 hS4) (seat_lt ha (by omega))) H.size) (cwV 1 hts (gV wd325 wd326 wd327 wd6 wd328) rfl rfl rfl (by decide +kernel) ⟨Nat.le_of_ble_eq_true rfl, Nat.le_of_ble_eq_true rfl⟩) ⟨fb_PW, va_recv (q0 := 0) (ci := 4) hK hPc rfl rfl, pre_PW hK hPc hDc hZ⟩ rfl rfl hl.1 rfl (lv_room (Nat.le_of_ble_eq_true rfl)) dDecreePool_prefixLength_20 ⟨Nat.zero_le _, Nat.zero_le _⟩) hP hD hS hA [13, 14, 15] [0, 1, 2, 3, 4, 5, 6, 7, 8, 9, 10, 11, 12] rfl rfl (by decide) (by decide) (fun r w1 H locs hw hP hD hS => ?_)
      obtain ⟨rfl, rfl⟩ := hw
      have hP : va_P D vwCl (wX q cI n S P x) H := hP
      have hD : va_D A (wX q cI n S P x) := hD
      refine lv_topi (nm_r (sq_at (by omega)) ?_)
      refine lv_if_eq (tgt := 32) hx hb dDecreePool_prefixLength_23 (by decide) (fun c23 => ?_) (fun c23 => ?_)
      · refine lv_iload_n hx hb dDecreePool_prefixLength_32 rfl (lv_at hl 0 rfl) ?_
        have hFi : i = lst (x.1 11 a) S 0 := by rw [← hF]; exact (lst_s c23).symm
        rw [hFi]
        exact W.iret (v := nI (lst (x.1 11 a) S 0)) hx hb hr (fun t9 ht9 hW9 => ⟨⟨nI (lst (x.1 11 a) S 0), (wX q cI n S P x), rfl, ⟨rfl, rfl⟩, by rw [ht9]; exact hP, va_K.moved hW9.alike hK, hD⟩, hS.F ht9⟩) hS.2.2 dDecreePool_prefixLength_33
      · refine lv_iinc (k := 0) (v := nI (i + 1)) hx hb dDecreePool_prefixLength_26 hl rfl ((nI_succ _).symm) (by decide) rfl (fun ls hl => ?_)
        have hl : lv_has ls 3 [(2, .int (nI (i + 1))), (0, .ref (q 0)), (1, .int (nI a))] := hl
        refine lv_goto (tgt := 2) hx hb dDecreePool_prefixLength_29 (by decide) ?_
        exact ih2 (i + 1) ls H locs (by omega) (by rw [← hF]; exact (lst_n c23).symm) hl hP hD hS
  exact loop2 S 0 ls s.heap [] (by omega) (rfl) hl hP hD hS
theorem dDecreePool_sendToAll_0 : decode cDecreePool_sendToAll 0 = .ok (.iconst 0, 1) := by decide +kernel
theorem dDecreePool_sendToAll_1 : decode cDecreePool_sendToAll 1 = .ok (.istore 6, 2) := by decide +kernel
theorem dDecreePool_sendToAll_3 : decode cDecreePool_sendToAll 3 = .ok (.iload 6, 2) := by decide +kernel
theorem dDecreePool_sendToAll_5 : decode cDecreePool_sendToAll 5 = .ok (.aload_n 0, 1) := by decide +kernel
theorem dDecreePool_sendToAll_6 : decode cDecreePool_sendToAll 6 = .ok (.getfield 13, 3) := by decide +kernel
theorem dDecreePool_sendToAll_9 : decode cDecreePool_sendToAll 9 = .ok (.if_icmp .ge 27, 3) := by decide +kernel
theorem dDecreePool_sendToAll_12 : decode cDecreePool_sendToAll 12 = .ok (.aload_n 0, 1) := by decide +kernel
theorem dDecreePool_sendToAll_13 : decode cDecreePool_sendToAll 13 = .ok (.getfield 25, 3) := by decide +kernel
theorem dDecreePool_sendToAll_16 : decode cDecreePool_sendToAll 16 = .ok (.iload_n 1, 1) := by decide +kernel
theorem dDecreePool_sendToAll_17 : decode cDecreePool_sendToAll 17 = .ok (.iload_n 2, 1) := by decide +kernel
theorem dDecreePool_sendToAll_18 : decode cDecreePool_sendToAll 18 = .ok (.iload 6, 2) := by decide +kernel
theorem dDecreePool_sendToAll_20 : decode cDecreePool_sendToAll 20 = .ok (.iload_n 3, 1) := by decide +kernel
theorem dDecreePool_sendToAll_21 : decode cDecreePool_sendToAll 21 = .ok (.iload 4, 2) := by decide +kernel
theorem dDecreePool_sendToAll_23 : decode cDecreePool_sendToAll 23 = .ok (.iload 5, 2) := by decide +kernel
theorem dDecreePool_sendToAll_25 : decode cDecreePool_sendToAll 25 = .ok (.iconst (-1), 1) := by decide +kernel
theorem dDecreePool_sendToAll_26 : decode cDecreePool_sendToAll 26 = .ok (.invokevirtual 164, 3) := by decide +kernel
theorem dDecreePool_sendToAll_29 : decode cDecreePool_sendToAll 29 = .ok (.pop, 1) := by decide +kernel
theorem dDecreePool_sendToAll_30 : decode cDecreePool_sendToAll 30 = .ok (.iinc 6  1, 3) := by decide +kernel
theorem dDecreePool_sendToAll_33 : decode cDecreePool_sendToAll 33 = .ok (.goto (-30), 3) := by decide +kernel
theorem dDecreePool_sendToAll_36 : decode cDecreePool_sendToAll 36 = .ok (.return_, 1) := by decide +kernel
set_option maxRecDepth 100000 in
set_option maxHeartbeats 4000000 in
theorem c_sendToAll (l : Launch) (D : va_G) (cI cZ : ClassId) (q : Nat → Nat) (n : Nat) (S : Nat) (P : Nat) (x : St) (k : Int32) (s1 : Int32) (sl : Int32) (b : Int32) (v : Int32) (hn1 : 1 ≤ n) (hn5 : n ≤ 5) (hS1 : 1 ≤ S) (hS4 : S ≤ 4) (hP5 : 5 ≤ P) (hP64 : P ≤ 64) (hk0 : k ≠ 0) (hroom : cntx P x + n ≤ P) : MV l D [(cI, .int), (cZ, .boolean)] yDecreePool_sendToAll wsDecreePool_sendToAll ({ frames := 3, cells := 0, slots := 0, locals := 72 }) [.ref (q 0), .int k, .int s1, .int sl, .int b, .int v] (wX q cI n S P x) (fun w => w = (wX q cI n S P (sendA P x k s1 sl b v n))) := by
  intro sz
  refine Met.ofW (cc := cDecreePool_sendToAll) (maxL := 7) (ret := (Option.none : Option ClassFile.FieldType)) (by decide) rfl ?_
  intro p e s m args below meth c s₁ B hml hv
  obtain ⟨rfl, hsz, hP, hK, hD0, hZ⟩ := hv
  have hx := B.exec
  have hb := B.bytes
  have hr := B.returns
  have hts := atoms_spec (ws := wsDecreePool_sendToAll) B.pre
  have hown : s.vm.findClass RDecreePool = some m.cls := findClass_of_methodNamed B.named
  have hlocks := B.notSynchronized
  subst hsz
  have hD := hD0.self (sz := s.heap.size)
  generalize hAe : va_A (wX q cI n S P x) s.heap.size = A at hD ⊢
  have hA : ∀ q : Nat, s.heap.size ≤ q → A q := fun q h => by rw [← hAe]; exact Or.inr h
  have hS : va_S A s.heap s.heap [] := va_S.rf
  have hP : va_P D vwCl (wX q cI n S P x) s.heap := hP
  have hl := lv_entry ([.ref (q 0), .int k, .int s1, .int sl, .int b, .int v]) (n := 7) (Nat.le_of_ble_eq_true rfl)
  rw [lg_entry_eq]
  generalize (lg_sl ([.ref (q 0), .int k, .int s1, .int sl, .int b, .int v]) ++ List.replicate (7 - (lg_sl ([.ref (q 0), .int k, .int s1, .int sl, .int b, .int v])).length) Slot.unset).toArray = ls at hl ⊢
  have hl : lv_has ls 7 [(0, .ref (q 0)), (1, .int k), (2, .int s1), (3, .int sl), (4, .int b), (5, .int v)] := hl
  refine lv_iconst (v := nI 0) hx hb dDecreePool_sendToAll_0 (by decide) ?_
  refine lv_istore hx hb dDecreePool_sendToAll_1 hl (by decide) rfl (fun ls hl => ?_)
  have hl : lv_has ls 7 [(6, .int (nI 0)), (0, .ref (q 0)), (1, .int k), (2, .int s1), (3, .int sl), (4, .int b), (5, .int v)] := hl
  have loop3 : ∀ (d3 i : Nat) (ls : Array Slot) (H : Heap) (locs : List Loc), i + d3 = n → lv_has ls 7 [(6, .int (nI i)), (0, .ref (q 0)), (1, .int k), (2, .int s1), (3, .int sl), (4, .int b), (5, .int v)] → va_P D vwCl (wX q cI n S P (sendA P x k s1 sl b v i)) H → va_D A (wX q cI n S P (sendA P x k s1 sl b v i)) → va_S A s.heap H locs → W p l e (headSpec wsDecreePool_sendToAll { frames := 3, cells := 0, slots := 0, locals := 72 }).room s m [.ref (q 0), .int k, .int s1, .int sl, .int b, .int v].toArray below meth c H locs 0 0 (MQ below (va_Qv (fun w => w = (wX q cI n S P (sendA P x k s1 sl b v n))) (QW D [(cI, .int), (cZ, .boolean)] A) A) [.ref (q 0), .int k, .int s1, .int sl, .int b, .int v].toArray s 0 0 A) (F0 m 3 ls []) := by
    intro d3
    induction d3 with
    | zero =>
      intro i ls H locs hid3  hl hP hD hS
      refine lv_iload hx hb dDecreePool_sendToAll_3 (lv_at hl 0 rfl) ?_
      refine lv_aload_n hx hb dDecreePool_sendToAll_5 rfl (lv_at hl 1 rfl) ?_
      refine va_get (D := D) (ci := 0) (v := .int (nI n)) (C := RDecreePool) (T := TDecreePool) (N := 9) hx hb hts (fun w h => mc (uDecreePool_in w h)) hown hK hP 0 rfl rfl 0 (by decide) (hts _ (mc wd105)) (fun _ h9 => h9) rfl dDecreePool_sendToAll_6 ?_
      refine lv_icmp_ge (tgt := 36) hx hb dDecreePool_sendToAll_9 (by decide) (fun _ => ?_) (fun h9 => absurd (nI_le (by omega) (by omega)) h9)
      have hin : n = i := by omega
      subst hin
      exact W.vret hx hb hr (fun t9 ht9 hW9 => ⟨⟨(wX q cI n S P (sendA P x k s1 sl b v n)), rfl, rfl, by rw [ht9]; exact hP, va_K.moved hW9.alike hK, hD⟩, hS.F ht9⟩) hS.2.2 dDecreePool_sendToAll_36
    | succ d3 ih3 =>
      intro i ls H locs hid3  hl hP hD hS
      refine lv_iload hx hb dDecreePool_sendToAll_3 (lv_at hl 0 rfl) ?_
      refine lv_aload_n hx hb dDecreePool_sendToAll_5 rfl (lv_at hl 1 rfl) ?_
      refine va_get (D := D) (ci := 0) (v := .int (nI n)) (C := RDecreePool) (T := TDecreePool) (N := 9) hx hb hts (fun w h => mc (uDecreePool_in w h)) hown hK hP 0 rfl rfl 0 (by decide) (hts _ (mc wd105)) (fun _ h9 => h9) rfl dDecreePool_sendToAll_6 ?_
      refine lv_icmp_ge (tgt := 36) hx hb dDecreePool_sendToAll_9 (by decide) (fun h9 => absurd h9 (nI_ge (by omega) (by omega))) (fun _ => ?_)
      have hci : cntx P (sendA P x k s1 sl b v i) < P := by rw [cnt_sendA hk0 i (by omega)]; omega
      refine lv_aload_n hx hb dDecreePool_sendToAll_12 rfl (lv_at hl 1 rfl) ?_
      refine va_get (D := D) (ci := 0) (v := .ref (q 1)) (C := RDecreePool) (T := TDecreePool) (N := 9) hx hb hts (fun w h => mc (uDecreePool_in w h)) hown hK hP 0 rfl rfl 2 (by decide) (hts _ (mc wd107)) (fun _ h9 => h9) rfl dDecreePool_sendToAll_13 ?_
      refine lv_iload_n hx hb dDecreePool_sendToAll_16 rfl (lv_at hl 2 rfl) ?_
      refine lv_iload_n hx hb dDecreePool_sendToAll_17 rfl (lv_at hl 3 rfl) ?_
      refine lv_iload hx hb dDecreePool_sendToAll_18 (lv_at hl 0 rfl) ?_
      refine lv_iload_n hx hb dDecreePool_sendToAll_20 rfl (lv_at hl 4 rfl) ?_
      refine lv_iload hx hb dDecreePool_sendToAll_21 (lv_at hl 5 rfl) ?_
      refine lv_iload hx hb dDecreePool_sendToAll_23 (lv_at hl 6 rfl) ?_
      refine lv_iconst (v := (-1)) hx hb dDecreePool_sendToAll_25 (by decide) ?_
      have hPc := hP.sub (ws' := (wPo q cI P ((sendA P x k s1 sl b v i).1 0) (cntx P (sendA P x k s1 sl b v i)))) [1, 2] rfl
      have hDc := hD.sub (ws' := (wPo q cI P ((sendA P x k s1 sl b v i).1 0) (cntx P (sendA P x k s1 sl b v i)))) [1, 2] (by decide) rfl
      refine kx_i (va_runV (As := [.int k, .int s1, .int (nI i), .int sl, .int b, .int v, .int (-1)]) (rest := []) ⟨hx, hb, hml, hown, hts⟩ ((c_send l D cI cZ q P ((sendA P x k s1 sl b v i).1 0) (cntx P (sendA P x k s1 sl b v i)) k s1 (nI i) sl b v (-1) (hP64)) H.size) (cwV 7 hts (gV wd173 wd174 wd175 wd2 wd176) rfl rfl rfl (by decide +kernel) ⟨Nat.le_of_ble_eq_true rfl, Nat.le_of_ble_eq_true rfl⟩) ⟨fb_PW, va_recv (q0 := 0) (ci := 1) hK hPc rfl rfl, pre_PW hK hPc hDc hZ⟩ rfl rfl hl.1 rfl (lv_room (Nat.le_of_ble_eq_true rfl)) dDecreePool_sendToAll_26 ⟨Nat.zero_le _, Nat.zero_le _⟩) hP hD hS hA [1, 2] [0, 3, 4, 5, 6, 7, 8, 9, 10, 11, 12, 13, 14, 15] rfl rfl (by decide) (by decide) (fun r w1 H locs hw hP hD hS => ?_)
      rcases hw with ⟨rfl, h26, rfl⟩ | ⟨rfl, h26, rfl⟩
      · have hP : va_P D vwCl (wD q cI n S P (n * S) (nI (msk (col ((sendA P x k s1 sl b v i).1 13) 0) n)) ((sendA P x k s1 sl b v i).1 12 0 0) ((sendA P x k s1 sl b v i).1 12 0 1) (up7 ((sendA P x k s1 sl b v i).1 0) (lst (col ((sendA P x k s1 sl b v i).1 0) 0) P 0) k s1 (nI i) sl b v (-1)) ((cntx P (sendA P x k s1 sl b v i)) + 1) (sq S ((sendA P x k s1 sl b v i).1 1)) (sq S ((sendA P x k s1 sl b v i).1 2)) (sq S ((sendA P x k s1 sl b v i).1 3)) (sq S ((sendA P x k s1 sl b v i).1 4)) (sq S ((sendA P x k s1 sl b v i).1 5)) (sq S ((sendA P x k s1 sl b v i).1 8)) (sq S ((sendA P x k s1 sl b v i).1 9)) (sq S ((sendA P x k s1 sl b v i).1 10)) (hq n S ((sendA P x k s1 sl b v i).2 0)) (sq S ((sendA P x k s1 sl b v i).1 11))) H := hP.sub [0, 14, 15, 1, 2, 3, 4, 5, 6, 7, 8, 9, 10, 11, 12, 13] rfl
        have hD : va_D A (wD q cI n S P (n * S) (nI (msk (col ((sendA P x k s1 sl b v i).1 13) 0) n)) ((sendA P x k s1 sl b v i).1 12 0 0) ((sendA P x k s1 sl b v i).1 12 0 1) (up7 ((sendA P x k s1 sl b v i).1 0) (lst (col ((sendA P x k s1 sl b v i).1 0) 0) P 0) k s1 (nI i) sl b v (-1)) ((cntx P (sendA P x k s1 sl b v i)) + 1) (sq S ((sendA P x k s1 sl b v i).1 1)) (sq S ((sendA P x k s1 sl b v i).1 2)) (sq S ((sendA P x k s1 sl b v i).1 3)) (sq S ((sendA P x k s1 sl b v i).1 4)) (sq S ((sendA P x k s1 sl b v i).1 5)) (sq S ((sendA P x k s1 sl b v i).1 8)) (sq S ((sendA P x k s1 sl b v i).1 9)) (sq S ((sendA P x k s1 sl b v i).1 10)) (hq n S ((sendA P x k s1 sl b v i).2 0)) (sq S ((sendA P x k s1 sl b v i).1 11))) := hD.sub [0, 14, 15, 1, 2, 3, 4, 5, 6, 7, 8, 9, 10, 11, 12, 13] (by decide) rfl
        have hW1 : (wD q cI n S P (n * S) (nI (msk (col ((sendA P x k s1 sl b v i).1 13) 0) n)) ((sendA P x k s1 sl b v i).1 12 0 0) ((sendA P x k s1 sl b v i).1 12 0 1) (up7 ((sendA P x k s1 sl b v i).1 0) (lst (col ((sendA P x k s1 sl b v i).1 0) 0) P 0) k s1 (nI i) sl b v (-1)) ((cntx P (sendA P x k s1 sl b v i)) + 1) (sq S ((sendA P x k s1 sl b v i).1 1)) (sq S ((sendA P x k s1 sl b v i).1 2)) (sq S ((sendA P x k s1 sl b v i).1 3)) (sq S ((sendA P x k s1 sl b v i).1 4)) (sq S ((sendA P x k s1 sl b v i).1 5)) (sq S ((sendA P x k s1 sl b v i).1 8)) (sq S ((sendA P x k s1 sl b v i).1 9)) (sq S ((sendA P x k s1 sl b v i).1 10)) (hq n S ((sendA P x k s1 sl b v i).2 0)) (sq S ((sendA P x k s1 sl b v i).1 11))) = (wX q cI n S P (sendA P x k s1 sl b v (i + 1))) := wX_send hk0 hci
        rw [hW1] at hP hD
        refine lv_pop hx hb dDecreePool_sendToAll_29 rfl ?_
        refine lv_iinc (k := 0) (v := nI (i + 1)) hx hb dDecreePool_sendToAll_30 hl rfl ((nI_succ _).symm) (by decide) rfl (fun ls hl => ?_)
        have hl : lv_has ls 7 [(6, .int (nI (i + 1))), (0, .ref (q 0)), (1, .int k), (2, .int s1), (3, .int sl), (4, .int b), (5, .int v)] := hl
        refine lv_goto (tgt := 3) hx hb dDecreePool_sendToAll_33 (by decide) ?_
        exact ih3 (i + 1) ls H locs (by omega) hl hP hD hS
      · have hP : va_P D vwCl (wX q cI n S P (sendA P x k s1 sl b v i)) H := hP.sub [0, 14, 15, 1, 2, 3, 4, 5, 6, 7, 8, 9, 10, 11, 12, 13] rfl
        have hD : va_D A (wX q cI n S P (sendA P x k s1 sl b v i)) := hD.sub [0, 14, 15, 1, 2, 3, 4, 5, 6, 7, 8, 9, 10, 11, 12, 13] (by decide) rfl
        exact absurd h26 (Nat.ne_of_lt (lst_lt hci))
  exact loop3 n 0 ls s.heap [] (by omega) hl hP hD hS
theorem dDecreePool_isAnsweredToAll_0 : decode cDecreePool_isAnsweredToAll 0 = .ok (.aload_n 0, 1) := by decide +kernel
theorem dDecreePool_isAnsweredToAll_1 : decode cDecreePool_isAnsweredToAll 1 = .ok (.getfield 25, 3) := by decide +kernel
theorem dDecreePool_isAnsweredToAll_4 : decode cDecreePool_isAnsweredToAll 4 = .ok (.iload_n 1, 1) := by decide +kernel
theorem dDecreePool_isAnsweredToAll_5 : decode cDecreePool_isAnsweredToAll 5 = .ok (.iconst 2, 1) := by decide +kernel
theorem dDecreePool_isAnsweredToAll_6 : decode cDecreePool_isAnsweredToAll 6 = .ok (.invokevirtual 101, 3) := by decide +kernel
theorem dDecreePool_isAnsweredToAll_9 : decode cDecreePool_isAnsweredToAll 9 = .ok (.istore_n 2, 1) := by decide +kernel
theorem dDecreePool_isAnsweredToAll_10 : decode cDecreePool_isAnsweredToAll 10 = .ok (.aload_n 0, 1) := by decide +kernel
theorem dDecreePool_isAnsweredToAll_11 : decode cDecreePool_isAnsweredToAll 11 = .ok (.iload_n 2, 1) := by decide +kernel
theorem dDecreePool_isAnsweredToAll_12 : decode cDecreePool_isAnsweredToAll 12 = .ok (.invokevirtual 65, 3) := by decide +kernel
theorem dDecreePool_isAnsweredToAll_15 : decode cDecreePool_isAnsweredToAll 15 = .ok (.ifCond .ne 5, 3) := by decide +kernel
theorem dDecreePool_isAnsweredToAll_18 : decode cDecreePool_isAnsweredToAll 18 = .ok (.iconst 0, 1) := by decide +kernel
theorem dDecreePool_isAnsweredToAll_19 : decode cDecreePool_isAnsweredToAll 19 = .ok (.ireturn, 1) := by decide +kernel
theorem dDecreePool_isAnsweredToAll_20 : decode cDecreePool_isAnsweredToAll 20 = .ok (.aload_n 0, 1) := by decide +kernel
theorem dDecreePool_isAnsweredToAll_21 : decode cDecreePool_isAnsweredToAll 21 = .ok (.iload_n 2, 1) := by decide +kernel
theorem dDecreePool_isAnsweredToAll_22 : decode cDecreePool_isAnsweredToAll 22 = .ok (.aload_n 0, 1) := by decide +kernel
theorem dDecreePool_isAnsweredToAll_23 : decode cDecreePool_isAnsweredToAll 23 = .ok (.getfield 25, 3) := by decide +kernel
theorem dDecreePool_isAnsweredToAll_26 : decode cDecreePool_isAnsweredToAll 26 = .ok (.iload_n 1, 1) := by decide +kernel
theorem dDecreePool_isAnsweredToAll_27 : decode cDecreePool_isAnsweredToAll 27 = .ok (.iconst 3, 1) := by decide +kernel
theorem dDecreePool_isAnsweredToAll_28 : decode cDecreePool_isAnsweredToAll 28 = .ok (.invokevirtual 101, 3) := by decide +kernel
theorem dDecreePool_isAnsweredToAll_31 : decode cDecreePool_isAnsweredToAll 31 = .ok (.invokevirtual 69, 3) := by decide +kernel
theorem dDecreePool_isAnsweredToAll_34 : decode cDecreePool_isAnsweredToAll 34 = .ok (.istore_n 3, 1) := by decide +kernel
theorem dDecreePool_isAnsweredToAll_35 : decode cDecreePool_isAnsweredToAll 35 = .ok (.aload_n 0, 1) := by decide +kernel
theorem dDecreePool_isAnsweredToAll_36 : decode cDecreePool_isAnsweredToAll 36 = .ok (.getfield 25, 3) := by decide +kernel
theorem dDecreePool_isAnsweredToAll_39 : decode cDecreePool_isAnsweredToAll 39 = .ok (.iload_n 1, 1) := by decide +kernel
theorem dDecreePool_isAnsweredToAll_40 : decode cDecreePool_isAnsweredToAll 40 = .ok (.iconst 4, 1) := by decide +kernel
theorem dDecreePool_isAnsweredToAll_41 : decode cDecreePool_isAnsweredToAll 41 = .ok (.invokevirtual 101, 3) := by decide +kernel
theorem dDecreePool_isAnsweredToAll_44 : decode cDecreePool_isAnsweredToAll 44 = .ok (.istore 4, 2) := by decide +kernel
theorem dDecreePool_isAnsweredToAll_46 : decode cDecreePool_isAnsweredToAll 46 = .ok (.aload_n 0, 1) := by decide +kernel
theorem dDecreePool_isAnsweredToAll_47 : decode cDecreePool_isAnsweredToAll 47 = .ok (.getfield 25, 3) := by decide +kernel
theorem dDecreePool_isAnsweredToAll_50 : decode cDecreePool_isAnsweredToAll 50 = .ok (.iload_n 1, 1) := by decide +kernel
theorem dDecreePool_isAnsweredToAll_51 : decode cDecreePool_isAnsweredToAll 51 = .ok (.iconst 0, 1) := by decide +kernel
theorem dDecreePool_isAnsweredToAll_52 : decode cDecreePool_isAnsweredToAll 52 = .ok (.invokevirtual 101, 3) := by decide +kernel
theorem dDecreePool_isAnsweredToAll_55 : decode cDecreePool_isAnsweredToAll 55 = .ok (.lookupswitch 56 #[(2, 25), (3, 45)], 25) := by decide +kernel
theorem dDecreePool_isAnsweredToAll_80 : decode cDecreePool_isAnsweredToAll 80 = .ok (.aload_n 0, 1) := by decide +kernel
theorem dDecreePool_isAnsweredToAll_81 : decode cDecreePool_isAnsweredToAll 81 = .ok (.getfield 34, 3) := by decide +kernel
theorem dDecreePool_isAnsweredToAll_84 : decode cDecreePool_isAnsweredToAll 84 = .ok (.iload_n 3, 1) := by decide +kernel
theorem dDecreePool_isAnsweredToAll_85 : decode cDecreePool_isAnsweredToAll 85 = .ok (.aload_n 0, 1) := by decide +kernel
theorem dDecreePool_isAnsweredToAll_86 : decode cDecreePool_isAnsweredToAll 86 = .ok (.getfield 25, 3) := by decide +kernel
theorem dDecreePool_isAnsweredToAll_89 : decode cDecreePool_isAnsweredToAll 89 = .ok (.iload_n 1, 1) := by decide +kernel
theorem dDecreePool_isAnsweredToAll_90 : decode cDecreePool_isAnsweredToAll 90 = .ok (.iconst 1, 1) := by decide +kernel
theorem dDecreePool_isAnsweredToAll_91 : decode cDecreePool_isAnsweredToAll 91 = .ok (.invokevirtual 101, 3) := by decide +kernel
theorem dDecreePool_isAnsweredToAll_94 : decode cDecreePool_isAnsweredToAll 94 = .ok (.iload 4, 2) := by decide +kernel
theorem dDecreePool_isAnsweredToAll_96 : decode cDecreePool_isAnsweredToAll 96 = .ok (.invokevirtual 171, 3) := by decide +kernel
theorem dDecreePool_isAnsweredToAll_99 : decode cDecreePool_isAnsweredToAll 99 = .ok (.ireturn, 1) := by decide +kernel
theorem dDecreePool_isAnsweredToAll_100 : decode cDecreePool_isAnsweredToAll 100 = .ok (.aload_n 0, 1) := by decide +kernel
theorem dDecreePool_isAnsweredToAll_101 : decode cDecreePool_isAnsweredToAll 101 = .ok (.getfield 41, 3) := by decide +kernel
theorem dDecreePool_isAnsweredToAll_104 : decode cDecreePool_isAnsweredToAll 104 = .ok (.iload_n 3, 1) := by decide +kernel
theorem dDecreePool_isAnsweredToAll_105 : decode cDecreePool_isAnsweredToAll 105 = .ok (.iload 4, 2) := by decide +kernel
theorem dDecreePool_isAnsweredToAll_107 : decode cDecreePool_isAnsweredToAll 107 = .ok (.invokevirtual 174, 3) := by decide +kernel
theorem dDecreePool_isAnsweredToAll_110 : decode cDecreePool_isAnsweredToAll 110 = .ok (.ireturn, 1) := by decide +kernel
theorem dDecreePool_isAnsweredToAll_111 : decode cDecreePool_isAnsweredToAll 111 = .ok (.iconst 0, 1) := by decide +kernel
theorem dDecreePool_isAnsweredToAll_112 : decode cDecreePool_isAnsweredToAll 112 = .ok (.ireturn, 1) := by decide +kernel
set_option maxRecDepth 100000 in
set_option maxHeartbeats 4000000 in
theorem c_isAnsweredToAll (l : Launch) (D : va_G) (cI cZ : ClassId) (q : Nat → Nat) (n : Nat) (S : Nat) (P : Nat) (x : St) (j : Nat) (hn1 : 1 ≤ n) (hn5 : n ≤ 5) (hS1 : 1 ≤ S) (hS4 : S ≤ 4) (hP5 : 5 ≤ P) (hP64 : P ≤ 64) (hj : j < P) (hV : vmsg n S (x.1 0 j 0) (x.1 0 j 1) (x.1 0 j 2) (x.1 0 j 3) (x.1 0 j 5)) (hI : Ibit x) : MI l D [(cI, .int), (cZ, .boolean)] yDecreePool_isAnsweredToAll wsDecreePool_isAnsweredToAll ({ frames := 2, cells := 0, slots := 0, locals := 45 }) [.ref (q 0), .int (nI j)] (wX q cI n S P x) (fun r w => (r = nI 1 ∧ (x.1 13 (ix (x.1 0 j 2)) 0 = 0 ∧ sAll n x j) ∧ w = (wX q cI n S P x)) ∨ (r = nI 0 ∧ (¬ (x.1 13 (ix (x.1 0 j 2)) 0 = 0 ∧ sAll n x j)) ∧ w = (wX q cI n S P x))) := by
  intro sz
  obtain ⟨k9, b, a, t, hk1, hk5, hb, ha, ht, hkk, hsd, hrc, hsl, hv0⟩ := hV
  obtain ⟨e1, he1, he2⟩ := hI.1 a t
  have hE := orb_fin e1 he1 b (by omega)
  have iA : ix (x.1 0 j 2) = a := by rw [hrc]; exact ix_nI ha (by omega)
  have iT : ix (x.1 0 j 3) = t := by rw [hsl]; exact ix_nI ht (by omega)
  have iB : ix (x.1 0 j 1) = b := by rw [hsd]; exact ix_nI hb (by omega)
  have hiff : (x.1 13 (ix (x.1 0 j 2)) 0 = 0 ∧ sAll n x j) ↔ (x.1 13 a 0 = 0 ∧ ((x.1 0 j 0 = nI 2 ∧ ((x.1 1 a t = nI 1 ∧ x.1 2 a t = x.1 0 j 4) ∧ n < 2 * popn (e1 ||| 2 ^ b))) ∨ (x.1 0 j 0 = nI 3 ∧ x.1 8 a t ≤ x.1 0 j 4))) := by
    unfold sAll sWins
    rw [iA, iT, hsd, he2, hE.1, ix_nI hE.2 (by omega)]
  refine Met.ofW (cc := cDecreePool_isAnsweredToAll) (maxL := 5) (ret := (Option.some .boolean)) (by decide) rfl ?_
  intro p e s m args below meth c s₁ B hml hv
  obtain ⟨rfl, hsz, hP, hK, hD0, hZ⟩ := hv
  have hx := B.exec
  have hb := B.bytes
  have hr := B.returns
  have hts := atoms_spec (ws := wsDecreePool_isAnsweredToAll) B.pre
  have hown : s.vm.findClass RDecreePool = some m.cls := findClass_of_methodNamed B.named
  have hlocks := B.notSynchronized
  subst hsz
  have hD := hD0.self (sz := s.heap.size)
  generalize hAe : va_A (wX q cI n S P x) s.heap.size = A at hD ⊢
  have hA : ∀ q : Nat, s.heap.size ≤ q → A q := fun q h => by rw [← hAe]; exact Or.inr h
  have hS : va_S A s.heap s.heap [] := va_S.rf
  have hP : va_P D vwCl (wX q cI n S P x) s.heap := hP
  have hl := lv_entry ([.ref (q 0), .int (nI j)]) (n := 5) (Nat.le_of_ble_eq_true rfl)
  rw [lg_entry_eq]
  generalize (lg_sl ([.ref (q 0), .int (nI j)]) ++ List.replicate (5 - (lg_sl ([.ref (q 0), .int (nI j)])).length) Slot.unset).toArray = ls at hl ⊢
  have hl : lv_has ls 5 [(0, .ref (q 0)), (1, .int (nI j))] := hl
  refine lv_aload_n hx hb dDecreePool_isAnsweredToAll_0 rfl (lv_at hl 0 rfl) ?_
  refine va_get (D := D) (ci := 0) (v := .ref (q 1)) (C := RDecreePool) (T := TDecreePool) (N := 9) hx hb hts (fun w h => mc (uDecreePool_in w h)) hown hK hP 0 rfl rfl 2 (by decide) (hts _ (mc wd107)) (fun _ h9 => h9) rfl dDecreePool_isAnsweredToAll_1 ?_
  refine lv_iload_n hx hb dDecreePool_isAnsweredToAll_4 rfl (lv_at hl 1 rfl) ?_
  refine lv_iconst (v := nI 2) hx hb dDecreePool_isAnsweredToAll_5 (by decide) ?_
  have hPc := hP.sub (ws' := (wPo q cI P (x.1 0) (cntx P x))) [1, 2] rfl
  have hDc := hD.sub (ws' := (wPo q cI P (x.1 0) (cntx P x))) [1, 2] (by decide) rfl
  refine kx_i (va_runV (As := [.int (nI j), .int (nI 2)]) (rest := []) ⟨hx, hb, hml, hown, hts⟩ ((c_field l D cI cZ q P (x.1 0) (cntx P x) j 2 (hP64) (hj) (by omega)) s.heap.size) (cwV 2 hts (gV wd202 wd182 wd183 wd2 wd184) rfl rfl rfl (by decide +kernel) ⟨Nat.le_of_ble_eq_true rfl, Nat.le_of_ble_eq_true rfl⟩) ⟨fb_PW, va_recv (q0 := 0) (ci := 1) hK hPc rfl rfl, pre_PW hK hPc hDc hZ⟩ rfl rfl hl.1 rfl (lv_room (Nat.le_of_ble_eq_true rfl)) dDecreePool_isAnsweredToAll_6 ⟨Nat.zero_le _, Nat.zero_le _⟩) hP hD hS hA [1, 2] [0, 3, 4, 5, 6, 7, 8, 9, 10, 11, 12, 13, 14, 15] rfl rfl (by decide) (by decide) (fun r w1 H locs hw hP hD hS => ?_)
  obtain ⟨rfl, rfl⟩ := hw
  have hP : va_P D vwCl (wX q cI n S P x) H := hP.sub [0, 14, 15, 1, 2, 3, 4, 5, 6, 7, 8, 9, 10, 11, 12, 13] rfl
  have hD : va_D A (wX q cI n S P x) := hD.sub [0, 14, 15, 1, 2, 3, 4, 5, 6, 7, 8, 9, 10, 11, 12, 13] (by decide) rfl
  refine lv_topi (nm_r (hrc) ?_)
  refine lv_istore_n hx hb dDecreePool_isAnsweredToAll_9 rfl hl (by decide) rfl (fun ls hl => ?_)
  have hl : lv_has ls 5 [(2, .int (nI a)), (0, .ref (q 0)), (1, .int (nI j))] := hl
  refine lv_aload_n hx hb dDecreePool_isAnsweredToAll_10 rfl (lv_at hl 1 rfl) ?_
  refine lv_iload_n hx hb dDecreePool_isAnsweredToAll_11 rfl (lv_at hl 0 rfl) ?_
  have hPc := hP.sub (ws' := (wX q cI n S P x)) [0, 1, 2, 3, 4, 5, 6, 7, 8, 9, 10, 11, 12, 13, 14, 15] rfl
  have hDc := hD.sub (ws' := (wX q cI n S P x)) [0, 1, 2, 3, 4, 5, 6, 7, 8, 9, 10, 11, 12, 13, 14, 15] (by decide) rfl
  refine kx_i (va_runV (As := [.int (nI a)]) (rest := []) ⟨hx, hb, hml, hown, hts⟩ ((c_isUp l D cI cZ q n S P x a (hn1) (hn5) (hS1) (hS4) (hP5) (hP64) (by omega)) H.size) (cwV 1 hts (gV wd149 wd151 sl_DecreePool_isUp wd1 wd152) rfl rfl rfl (by decide +kernel) ⟨Nat.le_of_ble_eq_true rfl, Nat.le_of_ble_eq_true rfl⟩) ⟨fb_PW, va_recv (q0 := 0) (ci := 0) hK hPc rfl rfl, pre_PW hK hPc hDc hZ⟩ rfl rfl hl.1 rfl (lv_room (Nat.le_of_ble_eq_true rfl)) dDecreePool_isAnsweredToAll_12 ⟨Nat.zero_le _, Nat.zero_le _⟩) hP hD hS hA [0, 1, 2, 3, 4, 5, 6, 7, 8, 9, 10, 11, 12, 13, 14, 15] [] rfl rfl (by decide) (by decide) (fun r w1 H locs hw hP hD hS => ?_)
  rcases hw with ⟨rfl, h12, rfl⟩ | ⟨rfl, h12, rfl⟩
  · have hP : va_P D vwCl (wX q cI n S P x) H := hP
    have hD : va_D A (wX q cI n S P x) := hD
    refine lv_if_ne (tgt := 20) hx hb dDecreePool_isAnsweredToAll_15 (by decide) (fun _ => ?_) (fun h9 => absurd h9 (by decide))
    refine lv_aload_n hx hb dDecreePool_isAnsweredToAll_20 rfl (lv_at hl 1 rfl) ?_
    refine lv_iload_n hx hb dDecreePool_isAnsweredToAll_21 rfl (lv_at hl 0 rfl) ?_
    refine lv_aload_n hx hb dDecreePool_isAnsweredToAll_22 rfl (lv_at hl 1 rfl) ?_
    refine va_get (D := D) (ci := 0) (v := .ref (q 1)) (C := RDecreePool) (T := TDecreePool) (N := 9) hx hb hts (fun w h => mc (uDecreePool_in w h)) hown hK hP 0 rfl rfl 2 (by decide) (hts _ (mc wd107)) (fun _ h9 => h9) rfl dDecreePool_isAnsweredToAll_23 ?_
    refine lv_iload_n hx hb dDecreePool_isAnsweredToAll_26 rfl (lv_at hl 2 rfl) ?_
    refine lv_iconst (v := nI 3) hx hb dDecreePool_isAnsweredToAll_27 (by decide) ?_
    have hPc := hP.sub (ws' := (wPo q cI P (x.1 0) (cntx P x))) [1, 2] rfl
    have hDc := hD.sub (ws' := (wPo q cI P (x.1 0) (cntx P x))) [1, 2] (by decide) rfl
    refine kx_i (va_runV (As := [.int (nI j), .int (nI 3)]) (rest := [.int (nI a), .ref (q 0)]) ⟨hx, hb, hml, hown, hts⟩ ((c_field l D cI cZ q P (x.1 0) (cntx P x) j 3 (hP64) (hj) (by omega)) H.size) (cwV 2 hts (gV wd202 wd182 wd183 wd2 wd184) rfl rfl rfl (by decide +kernel) ⟨Nat.le_of_ble_eq_true rfl, Nat.le_of_ble_eq_true rfl⟩) ⟨fb_PW, va_recv (q0 := 0) (ci := 1) hK hPc rfl rfl, pre_PW hK hPc hDc hZ⟩ rfl rfl hl.1 rfl (lv_room (Nat.le_of_ble_eq_true rfl)) dDecreePool_isAnsweredToAll_28 ⟨Nat.zero_le _, Nat.zero_le _⟩) hP hD hS hA [1, 2] [0, 3, 4, 5, 6, 7, 8, 9, 10, 11, 12, 13, 14, 15] rfl rfl (by decide) (by decide) (fun r w1 H locs hw hP hD hS => ?_)
    obtain ⟨rfl, rfl⟩ := hw
    have hP : va_P D vwCl (wX q cI n S P x) H := hP.sub [0, 14, 15, 1, 2, 3, 4, 5, 6, 7, 8, 9, 10, 11, 12, 13] rfl
    have hD : va_D A (wX q cI n S P x) := hD.sub [0, 14, 15, 1, 2, 3, 4, 5, 6, 7, 8, 9, 10, 11, 12, 13] (by decide) rfl
    refine lv_topi (nm_r (hsl) ?_)
    have hPc := hP.sub (ws' := (wX q cI n S P x)) [0, 1, 2, 3, 4, 5, 6, 7, 8, 9, 10, 11, 12, 13, 14, 15] rfl
    have hDc := hD.sub (ws' := (wX q cI n S P x)) [0, 1, 2, 3, 4, 5, 6, 7, 8, 9, 10, 11, 12, 13, 14, 15] (by decide) rfl
    refine kx_i (va_runV (As := [.int (nI a), .int (nI t)]) (rest := []) ⟨hx, hb, hml, hown, hts⟩ ((c_seatOf l D cI cZ q n S P x a t (hn1) (hn5) (hS1) (hS4) (hP5) (hP64)) H.size) (cwV 2 hts (gV wd153 wd155 sl_DecreePool_seatOf wd1 wd156) rfl rfl rfl (by decide +kernel) ⟨Nat.le_of_ble_eq_true rfl, Nat.le_of_ble_eq_true rfl⟩) ⟨fb_PW, va_recv (q0 := 0) (ci := 0) hK hPc rfl rfl, pre_PW hK hPc hDc hZ⟩ rfl rfl hl.1 rfl (lv_room (Nat.le_of_ble_eq_true rfl)) dDecreePool_isAnsweredToAll_31 ⟨Nat.zero_le _, Nat.zero_le _⟩) hP hD hS hA [0, 1, 2, 3, 4, 5, 6, 7, 8, 9, 10, 11, 12, 13, 14, 15] [] rfl rfl (by decide) (by decide) (fun r w1 H locs hw hP hD hS => ?_)
    obtain ⟨rfl, rfl⟩ := hw
    have hP : va_P D vwCl (wX q cI n S P x) H := hP
    have hD : va_D A (wX q cI n S P x) := hD
    refine lv_istore_n hx hb dDecreePool_isAnsweredToAll_34 rfl hl (by decide) rfl (fun ls hl => ?_)
    have hl : lv_has ls 5 [(3, .int (nI (a * S + t))), (2, .int (nI a)), (0, .ref (q 0)), (1, .int (nI j))] := hl
    refine lv_aload_n hx hb dDecreePool_isAnsweredToAll_35 rfl (lv_at hl 2 rfl) ?_
    refine va_get (D := D) (ci := 0) (v := .ref (q 1)) (C := RDecreePool) (T := TDecreePool) (N := 9) hx hb hts (fun w h => mc (uDecreePool_in w h)) hown hK hP 0 rfl rfl 2 (by decide) (hts _ (mc wd107)) (fun _ h9 => h9) rfl dDecreePool_isAnsweredToAll_36 ?_
    refine lv_iload_n hx hb dDecreePool_isAnsweredToAll_39 rfl (lv_at hl 3 rfl) ?_
    refine lv_iconst (v := nI 4) hx hb dDecreePool_isAnsweredToAll_40 (by decide) ?_
    have hPc := hP.sub (ws' := (wPo q cI P (x.1 0) (cntx P x))) [1, 2] rfl
    have hDc := hD.sub (ws' := (wPo q cI P (x.1 0) (cntx P x))) [1, 2] (by decide) rfl
    refine kx_i (va_runV (As := [.int (nI j), .int (nI 4)]) (rest := []) ⟨hx, hb, hml, hown, hts⟩ ((c_field l D cI cZ q P (x.1 0) (cntx P x) j 4 (hP64) (hj) (by omega)) H.size) (cwV 2 hts (gV wd202 wd182 wd183 wd2 wd184) rfl rfl rfl (by decide +kernel) ⟨Nat.le_of_ble_eq_true rfl, Nat.le_of_ble_eq_true rfl⟩) ⟨fb_PW, va_recv (q0 := 0) (ci := 1) hK hPc rfl rfl, pre_PW hK hPc hDc hZ⟩ rfl rfl hl.1 rfl (lv_room (Nat.le_of_ble_eq_true rfl)) dDecreePool_isAnsweredToAll_41 ⟨Nat.zero_le _, Nat.zero_le _⟩) hP hD hS hA [1, 2] [0, 3, 4, 5, 6, 7, 8, 9, 10, 11, 12, 13, 14, 15] rfl rfl (by decide) (by decide) (fun r w1 H locs hw hP hD hS => ?_)
    obtain ⟨rfl, rfl⟩ := hw
    have hP : va_P D vwCl (wX q cI n S P x) H := hP.sub [0, 14, 15, 1, 2, 3, 4, 5, 6, 7, 8, 9, 10, 11, 12, 13] rfl
    have hD : va_D A (wX q cI n S P x) := hD.sub [0, 14, 15, 1, 2, 3, 4, 5, 6, 7, 8, 9, 10, 11, 12, 13] (by decide) rfl
    refine lv_istore hx hb dDecreePool_isAnsweredToAll_44 hl (by decide) rfl (fun ls hl => ?_)
    have hl : lv_has ls 5 [(4, .int (x.1 0 j 4)), (3, .int (nI (a * S + t))), (2, .int (nI a)), (0, .ref (q 0)), (1, .int (nI j))] := hl
    refine lv_aload_n hx hb dDecreePool_isAnsweredToAll_46 rfl (lv_at hl 3 rfl) ?_
    refine va_get (D := D) (ci := 0) (v := .ref (q 1)) (C := RDecreePool) (T := TDecreePool) (N := 9) hx hb hts (fun w h => mc (uDecreePool_in w h)) hown hK hP 0 rfl rfl 2 (by decide) (hts _ (mc wd107)) (fun _ h9 => h9) rfl dDecreePool_isAnsweredToAll_47 ?_
    refine lv_iload_n hx hb dDecreePool_isAnsweredToAll_50 rfl (lv_at hl 4 rfl) ?_
    refine lv_iconst (v := nI 0) hx hb dDecreePool_isAnsweredToAll_51 (by decide) ?_
    have hPc := hP.sub (ws' := (wPo q cI P (x.1 0) (cntx P x))) [1, 2] rfl
    have hDc := hD.sub (ws' := (wPo q cI P (x.1 0) (cntx P x))) [1, 2] (by decide) rfl
    refine kx_i (va_runV (As := [.int (nI j), .int (nI 0)]) (rest := []) ⟨hx, hb, hml, hown, hts⟩ ((c_field l D cI cZ q P (x.1 0) (cntx P x) j 0 (hP64) (hj) (by omega)) H.size) (cwV 2 hts (gV wd202 wd182 wd183 wd2 wd184) rfl rfl rfl (by decide +kernel) ⟨Nat.le_of_ble_eq_true rfl, Nat.le_of_ble_eq_true rfl⟩) ⟨fb_PW, va_recv (q0 := 0) (ci := 1) hK hPc rfl rfl, pre_PW hK hPc hDc hZ⟩ rfl rfl hl.1 rfl (lv_room (Nat.le_of_ble_eq_true rfl)) dDecreePool_isAnsweredToAll_52 ⟨Nat.zero_le _, Nat.zero_le _⟩) hP hD hS hA [1, 2] [0, 3, 4, 5, 6, 7, 8, 9, 10, 11, 12, 13, 14, 15] rfl rfl (by decide) (by decide) (fun r w1 H locs hw hP hD hS => ?_)
    obtain ⟨rfl, rfl⟩ := hw
    have hP : va_P D vwCl (wX q cI n S P x) H := hP.sub [0, 14, 15, 1, 2, 3, 4, 5, 6, 7, 8, 9, 10, 11, 12, 13] rfl
    have hD : va_D A (wX q cI n S P x) := hD.sub [0, 14, 15, 1, 2, 3, 4, 5, 6, 7, 8, 9, 10, 11, 12, 13] (by decide) rfl
    by_cases k55_2 : x.1 0 j 0 = nI 2
    · refine lv_topi (nm_r (k55_2) ?_)
      refine lv_lookup (off := 25) (tgt := 80) hx hb dDecreePool_isAnsweredToAll_55 (by decide) rfl (by decide) ?_
      refine lv_aload_n hx hb dDecreePool_isAnsweredToAll_80 rfl (lv_at hl 3 rfl) ?_
      refine va_get (D := D) (ci := 0) (v := .ref (q 3)) (C := RDecreePool) (T := TDecreePool) (N := 9) hx hb hts (fun w h => mc (uDecreePool_in w h)) hown hK hP 0 rfl rfl 3 (by decide) (hts _ (mc wd108)) (fun _ h9 => h9) rfl dDecreePool_isAnsweredToAll_81 ?_
      refine lv_iload_n hx hb dDecreePool_isAnsweredToAll_84 rfl (lv_at hl 1 rfl) ?_
      refine lv_aload_n hx hb dDecreePool_isAnsweredToAll_85 rfl (lv_at hl 3 rfl) ?_
      refine va_get (D := D) (ci := 0) (v := .ref (q 1)) (C := RDecreePool) (T := TDecreePool) (N := 9) hx hb hts (fun w h => mc (uDecreePool_in w h)) hown hK hP 0 rfl rfl 2 (by decide) (hts _ (mc wd107)) (fun _ h9 => h9) rfl dDecreePool_isAnsweredToAll_86 ?_
      refine lv_iload_n hx hb dDecreePool_isAnsweredToAll_89 rfl (lv_at hl 4 rfl) ?_
      refine lv_iconst (v := nI 1) hx hb dDecreePool_isAnsweredToAll_90 (by decide) ?_
      have hPc := hP.sub (ws' := (wPo q cI P (x.1 0) (cntx P x))) [1, 2] rfl
      have hDc := hD.sub (ws' := (wPo q cI P (x.1 0) (cntx P x))) [1, 2] (by decide) rfl
      refine kx_i (va_runV (As := [.int (nI j), .int (nI 1)]) (rest := [.int (nI (a * S + t)), .ref (q 3)]) ⟨hx, hb, hml, hown, hts⟩ ((c_field l D cI cZ q P (x.1 0) (cntx P x) j 1 (hP64) (hj) (by omega)) H.size) (cwV 2 hts (gV wd202 wd182 wd183 wd2 wd184) rfl rfl rfl (by decide +kernel) ⟨Nat.le_of_ble_eq_true rfl, Nat.le_of_ble_eq_true rfl⟩) ⟨fb_PW, va_recv (q0 := 0) (ci := 1) hK hPc rfl rfl, pre_PW hK hPc hDc hZ⟩ rfl rfl hl.1 rfl (lv_room (Nat.le_of_ble_eq_true rfl)) dDecreePool_isAnsweredToAll_91 ⟨Nat.zero_le _, Nat.zero_le _⟩) hP hD hS hA [1, 2] [0, 3, 4, 5, 6, 7, 8, 9, 10, 11, 12, 13, 14, 15] rfl rfl (by decide) (by decide) (fun r w1 H locs hw hP hD hS => ?_)
      obtain ⟨rfl, rfl⟩ := hw
      have hP : va_P D vwCl (wX q cI n S P x) H := hP.sub [0, 14, 15, 1, 2, 3, 4, 5, 6, 7, 8, 9, 10, 11, 12, 13] rfl
      have hD : va_D A (wX q cI n S P x) := hD.sub [0, 14, 15, 1, 2, 3, 4, 5, 6, 7, 8, 9, 10, 11, 12, 13] (by decide) rfl
      refine lv_topi (nm_r (hsd) ?_)
      refine lv_iload hx hb dDecreePool_isAnsweredToAll_94 (lv_at hl 0 rfl) ?_
      have hPc := hP.sub (ws' := (wPr q cI n (n * S) (sq S (x.1 1)) (sq S (x.1 2)) (sq S (x.1 3)) (sq S (x.1 4)) (sq S (x.1 5)))) [3, 4, 5, 6, 7, 8] rfl
      have hDc := hD.sub (ws' := (wPr q cI n (n * S) (sq S (x.1 1)) (sq S (x.1 2)) (sq S (x.1 3)) (sq S (x.1 4)) (sq S (x.1 5)))) [3, 4, 5, 6, 7, 8] (by decide) rfl
      refine kx_i (va_runV (As := [.int (nI (a * S + t)), .int (nI b), .int (x.1 0 j 4)]) (rest := []) ⟨hx, hb, hml, hown, hts⟩ ((c_wouldWin l D cI cZ q n (n * S) (sq S (x.1 1)) (sq S (x.1 2)) (sq S (x.1 3)) (sq S (x.1 4)) (sq S (x.1 5)) (a * S + t) (nI b) (x.1 0 j 4) (e1 ||| 2 ^ b) (L20 hn5 hS4) (seat_lt ha ht) (hn5) (by rw [sq_at ht, he2]; exact hE.1) (hE.2)) H.size) (cwV 3 hts (gV wd203 wd204 wd205 wd3 wd206) rfl rfl rfl (by decide +kernel) ⟨Nat.le_of_ble_eq_true rfl, Nat.le_of_ble_eq_true rfl⟩) ⟨fb_PW, va_recv (q0 := 0) (ci := 2) hK hPc rfl rfl, pre_PW hK hPc hDc hZ⟩ rfl rfl hl.1 rfl (lv_room (Nat.le_of_ble_eq_true rfl)) dDecreePool_isAnsweredToAll_96 ⟨Nat.zero_le _, Nat.zero_le _⟩) hP hD hS hA [3, 4, 5, 6, 7, 8] [0, 1, 2, 9, 10, 11, 12, 13, 14, 15] rfl rfl (by decide) (by decide) (fun r w1 H locs hw hP hD hS => ?_)
      rcases hw with ⟨rfl, h96, rfl⟩ | ⟨rfl, h96, rfl⟩
      · have hP : va_P D vwCl (wX q cI n S P x) H := hP.sub [0, 1, 2, 10, 11, 12, 13, 14, 15, 3, 4, 5, 6, 7, 8, 9] rfl
        have hD : va_D A (wX q cI n S P x) := hD.sub [0, 1, 2, 10, 11, 12, 13, 14, 15, 3, 4, 5, 6, 7, 8, 9] (by decide) rfl
        simp only [sq_at ht] at h96
        exact W.zret (v := nI 1) (ty := .boolean) hx hb hr (by decide) (fun t9 ht9 hW9 => ⟨⟨nI 1, (wX q cI n S P x), rfl, Or.inl ⟨rfl, hiff.mpr ⟨h12, Or.inl ⟨k55_2, h96⟩⟩, rfl⟩, by rw [ht9]; exact hP, va_K.moved hW9.alike hK, hD⟩, hS.F ht9⟩) hS.2.2 dDecreePool_isAnsweredToAll_99
      · have hP : va_P D vwCl (wX q cI n S P x) H := hP.sub [0, 1, 2, 10, 11, 12, 13, 14, 15, 3, 4, 5, 6, 7, 8, 9] rfl
        have hD : va_D A (wX q cI n S P x) := hD.sub [0, 1, 2, 10, 11, 12, 13, 14, 15, 3, 4, 5, 6, 7, 8, 9] (by decide) rfl
        simp only [sq_at ht] at h96
        exact W.zret (v := nI 0) (ty := .boolean) hx hb hr (by decide) (fun t9 ht9 hW9 => ⟨⟨nI 0, (wX q cI n S P x), rfl, Or.inr ⟨rfl, fun h => (hiff.mp h).2.elim (fun q => h96 q.2) (fun q => absurd (k55_2.symm.trans q.1) (by decide)), rfl⟩, by rw [ht9]; exact hP, va_K.moved hW9.alike hK, hD⟩, hS.F ht9⟩) hS.2.2 dDecreePool_isAnsweredToAll_99
    by_cases k55_3 : x.1 0 j 0 = nI 3
    · refine lv_topi (nm_r (k55_3) ?_)
      refine lv_lookup (off := 45) (tgt := 100) hx hb dDecreePool_isAnsweredToAll_55 (by decide) rfl (by decide) ?_
      refine lv_aload_n hx hb dDecreePool_isAnsweredToAll_100 rfl (lv_at hl 3 rfl) ?_
      refine va_get (D := D) (ci := 0) (v := .ref (q 9)) (C := RDecreePool) (T := TDecreePool) (N := 9) hx hb hts (fun w h => mc (uDecreePool_in w h)) hown hK hP 0 rfl rfl 4 (by decide) (hts _ (mc wd109)) (fun _ h9 => h9) rfl dDecreePool_isAnsweredToAll_101 ?_
      refine lv_iload_n hx hb dDecreePool_isAnsweredToAll_104 rfl (lv_at hl 1 rfl) ?_
      refine lv_iload hx hb dDecreePool_isAnsweredToAll_105 (lv_at hl 0 rfl) ?_
      have hPc := hP.sub (ws' := (wAc q cI n S (n * S) (sq S (x.1 8)) (sq S (x.1 9)) (sq S (x.1 10)))) [9, 10, 11, 12] rfl
      have hDc := hD.sub (ws' := (wAc q cI n S (n * S) (sq S (x.1 8)) (sq S (x.1 9)) (sq S (x.1 10)))) [9, 10, 11, 12] (by decide) rfl
      refine kx_i (va_runV (As := [.int (nI (a * S + t)), .int (x.1 0 j 4)]) (rest := []) ⟨hx, hb, hml, hown, hts⟩ ((c_wouldAccept l D cI cZ q n S (n * S) (sq S (x.1 8)) (sq S (x.1 9)) (sq S (x.1 10)) (a * S + t) (x.1 0 j 4) (L20 hn5 hS4) (seat_lt ha ht)) H.size) (cwV 2 hts (gV wd220 wd221 wd222 wd5 wd223) rfl rfl rfl (by decide +kernel) ⟨Nat.le_of_ble_eq_true rfl, Nat.le_of_ble_eq_true rfl⟩) ⟨fb_PW, va_recv (q0 := 0) (ci := 3) hK hPc rfl rfl, pre_PW hK hPc hDc hZ⟩ rfl rfl hl.1 rfl (lv_room (Nat.le_of_ble_eq_true rfl)) dDecreePool_isAnsweredToAll_107 ⟨Nat.zero_le _, Nat.zero_le _⟩) hP hD hS hA [9, 10, 11, 12] [0, 1, 2, 3, 4, 5, 6, 7, 8, 13, 14, 15] rfl rfl (by decide) (by decide) (fun r w1 H locs hw hP hD hS => ?_)
      rcases hw with ⟨rfl, h107, rfl⟩ | ⟨rfl, h107, rfl⟩
      · have hP : va_P D vwCl (wX q cI n S P x) H := hP.sub [0, 1, 2, 3, 4, 5, 6, 7, 8, 12, 13, 14, 15, 9, 10, 11] rfl
        have hD : va_D A (wX q cI n S P x) := hD.sub [0, 1, 2, 3, 4, 5, 6, 7, 8, 12, 13, 14, 15, 9, 10, 11] (by decide) rfl
        simp only [sq_at ht] at h107
        exact W.zret (v := nI 1) (ty := .boolean) hx hb hr (by decide) (fun t9 ht9 hW9 => ⟨⟨nI 1, (wX q cI n S P x), rfl, Or.inl ⟨rfl, hiff.mpr ⟨h12, Or.inr ⟨k55_3, h107⟩⟩, rfl⟩, by rw [ht9]; exact hP, va_K.moved hW9.alike hK, hD⟩, hS.F ht9⟩) hS.2.2 dDecreePool_isAnsweredToAll_110
      · have hP : va_P D vwCl (wX q cI n S P x) H := hP.sub [0, 1, 2, 3, 4, 5, 6, 7, 8, 12, 13, 14, 15, 9, 10, 11] rfl
        have hD : va_D A (wX q cI n S P x) := hD.sub [0, 1, 2, 3, 4, 5, 6, 7, 8, 12, 13, 14, 15, 9, 10, 11] (by decide) rfl
        simp only [sq_at ht] at h107
        exact W.zret (v := nI 0) (ty := .boolean) hx hb hr (by decide) (fun t9 ht9 hW9 => ⟨⟨nI 0, (wX q cI n S P x), rfl, Or.inr ⟨rfl, fun h => (hiff.mp h).2.elim (fun q => absurd (k55_3.symm.trans q.1) (by decide)) (fun q => h107 q.2), rfl⟩, by rw [ht9]; exact hP, va_K.moved hW9.alike hK, hD⟩, hS.F ht9⟩) hS.2.2 dDecreePool_isAnsweredToAll_110
    refine lv_lookup (off := 56) (tgt := 111) hx hb dDecreePool_isAnsweredToAll_55 (by decide) ((lv_osw k55_2 rfl).trans ((lv_osw k55_3 rfl).trans (rfl))) (by decide) ?_
    refine lv_iconst (v := nI 0) hx hb dDecreePool_isAnsweredToAll_111 (by decide) ?_
    exact W.zret (v := nI 0) (ty := .boolean) hx hb hr (by decide) (fun t9 ht9 hW9 => ⟨⟨nI 0, (wX q cI n S P x), rfl, Or.inr ⟨rfl, fun h => (hiff.mp h).2.elim (fun q => k55_2 q.1) (fun q => k55_3 q.1), rfl⟩, by rw [ht9]; exact hP, va_K.moved hW9.alike hK, hD⟩, hS.F ht9⟩) hS.2.2 dDecreePool_isAnsweredToAll_112
  · have hP : va_P D vwCl (wX q cI n S P x) H := hP
    have hD : va_D A (wX q cI n S P x) := hD
    refine lv_if_ne (tgt := 20) hx hb dDecreePool_isAnsweredToAll_15 (by decide) (fun h9 => absurd (by decide) h9) (fun _ => ?_)
    refine lv_iconst (v := nI 0) hx hb dDecreePool_isAnsweredToAll_18 (by decide) ?_
    exact W.zret (v := nI 0) (ty := .boolean) hx hb hr (by decide) (fun t9 ht9 hW9 => ⟨⟨nI 0, (wX q cI n S P x), rfl, Or.inr ⟨rfl, fun h => h12 (hiff.mp h).1, rfl⟩, by rw [ht9]; exact hP, va_K.moved hW9.alike hK, hD⟩, hS.F ht9⟩) hS.2.2 dDecreePool_isAnsweredToAll_19
theorem dDecreePool_isDeliverable_0 : decode cDecreePool_isDeliverable 0 = .ok (.aload_n 0, 1) := by decide +kernel
theorem dDecreePool_isDeliverable_1 : decode cDecreePool_isDeliverable 1 = .ok (.getfield 25, 3) := by decide +kernel
theorem dDecreePool_isDeliverable_4 : decode cDecreePool_isDeliverable 4 = .ok (.invokevirtual 77, 3) := by decide +kernel
theorem dDecreePool_isDeliverable_7 : decode cDecreePool_isDeliverable 7 = .ok (.iconst 1, 1) := by decide +kernel
theorem dDecreePool_isDeliverable_8 : decode cDecreePool_isDeliverable 8 = .ok (.iadd, 1) := by decide +kernel
theorem dDecreePool_isDeliverable_9 : decode cDecreePool_isDeliverable 9 = .ok (.aload_n 0, 1) := by decide +kernel
theorem dDecreePool_isDeliverable_10 : decode cDecreePool_isDeliverable 10 = .ok (.getfield 13, 3) := by decide +kernel
theorem dDecreePool_isDeliverable_13 : decode cDecreePool_isDeliverable 13 = .ok (.if_icmp .ge 11, 3) := by decide +kernel
theorem dDecreePool_isDeliverable_16 : decode cDecreePool_isDeliverable 16 = .ok (.aload_n 0, 1) := by decide +kernel
theorem dDecreePool_isDeliverable_17 : decode cDecreePool_isDeliverable 17 = .ok (.iload_n 1, 1) := by decide +kernel
theorem dDecreePool_isDeliverable_18 : decode cDecreePool_isDeliverable 18 = .ok (.invokevirtual 168, 3) := by decide +kernel
theorem dDecreePool_isDeliverable_21 : decode cDecreePool_isDeliverable 21 = .ok (.ifCond .ne 7, 3) := by decide +kernel
theorem dDecreePool_isDeliverable_24 : decode cDecreePool_isDeliverable 24 = .ok (.iconst 1, 1) := by decide +kernel
theorem dDecreePool_isDeliverable_25 : decode cDecreePool_isDeliverable 25 = .ok (.goto 4, 3) := by decide +kernel
theorem dDecreePool_isDeliverable_28 : decode cDecreePool_isDeliverable 28 = .ok (.iconst 0, 1) := by decide +kernel
theorem dDecreePool_isDeliverable_29 : decode cDecreePool_isDeliverable 29 = .ok (.ireturn, 1) := by decide +kernel
set_option maxRecDepth 100000 in
set_option maxHeartbeats 4000000 in
theorem c_isDeliverable (l : Launch) (D : va_G) (cI cZ : ClassId) (q : Nat → Nat) (n : Nat) (S : Nat) (P : Nat) (x : St) (j : Nat) (hn1 : 1 ≤ n) (hn5 : n ≤ 5) (hS1 : 1 ≤ S) (hS4 : S ≤ 4) (hP5 : 5 ≤ P) (hP64 : P ≤ 64) (hj : j < P) (hV : vmsg n S (x.1 0 j 0) (x.1 0 j 1) (x.1 0 j 2) (x.1 0 j 3) (x.1 0 j 5)) (hI : Ibit x) : MI l D [(cI, .int), (cZ, .boolean)] yDecreePool_isDeliverable wsDecreePool_isDeliverable ({ frames := 3, cells := 0, slots := 0, locals := 69 }) [.ref (q 0), .int (nI j)] (wX q cI n S P x) (fun r w => (r = nI 1 ∧ (¬ sBlk n P x j) ∧ w = (wX q cI n S P x)) ∨ (r = nI 0 ∧ (sBlk n P x j) ∧ w = (wX q cI n S P x))) := by
  intro sz
  refine Met.ofW (cc := cDecreePool_isDeliverable) (maxL := 2) (ret := (Option.some .boolean)) (by decide) rfl ?_
  intro p e s m args below meth c s₁ B hml hv
  obtain ⟨rfl, hsz, hP, hK, hD0, hZ⟩ := hv
  have hx := B.exec
  have hb := B.bytes
  have hr := B.returns
  have hts := atoms_spec (ws := wsDecreePool_isDeliverable) B.pre
  have hown : s.vm.findClass RDecreePool = some m.cls := findClass_of_methodNamed B.named
  have hlocks := B.notSynchronized
  subst hsz
  have hD := hD0.self (sz := s.heap.size)
  generalize hAe : va_A (wX q cI n S P x) s.heap.size = A at hD ⊢
  have hA : ∀ q : Nat, s.heap.size ≤ q → A q := fun q h => by rw [← hAe]; exact Or.inr h
  have hS : va_S A s.heap s.heap [] := va_S.rf
  have hP : va_P D vwCl (wX q cI n S P x) s.heap := hP
  have hl := lv_entry ([.ref (q 0), .int (nI j)]) (n := 2) (Nat.le_of_ble_eq_true rfl)
  rw [lg_entry_eq]
  generalize (lg_sl ([.ref (q 0), .int (nI j)]) ++ List.replicate (2 - (lg_sl ([.ref (q 0), .int (nI j)])).length) Slot.unset).toArray = ls at hl ⊢
  have hl : lv_has ls 2 [(0, .ref (q 0)), (1, .int (nI j))] := hl
  refine lv_aload_n hx hb dDecreePool_isDeliverable_0 rfl (lv_at hl 0 rfl) ?_
  refine va_get (D := D) (ci := 0) (v := .ref (q 1)) (C := RDecreePool) (T := TDecreePool) (N := 9) hx hb hts (fun w h => mc (uDecreePool_in w h)) hown hK hP 0 rfl rfl 2 (by decide) (hts _ (mc wd107)) (fun _ h9 => h9) rfl dDecreePool_isDeliverable_1 ?_
  have hPc := hP.sub (ws' := (wPo q cI P (x.1 0) (cntx P x))) [1, 2] rfl
  have hDc := hD.sub (ws' := (wPo q cI P (x.1 0) (cntx P x))) [1, 2] (by decide) rfl
  refine kx_i (va_runV (As := []) (rest := []) ⟨hx, hb, hml, hown, hts⟩ ((c_emptyPlaces l D cI cZ q P (x.1 0) (cntx P x) (cnt_le _ _)) s.heap.size) (cwV 0 hts (gV wd161 wd162 wd163 wd2 wd164) rfl rfl rfl (by decide +kernel) ⟨Nat.le_of_ble_eq_true rfl, Nat.le_of_ble_eq_true rfl⟩) ⟨fb_PW, va_recv (q0 := 0) (ci := 1) hK hPc rfl rfl, pre_PW hK hPc hDc hZ⟩ rfl rfl hl.1 rfl (lv_room (Nat.le_of_ble_eq_true rfl)) dDecreePool_isDeliverable_4 ⟨Nat.zero_le _, Nat.zero_le _⟩) hP hD hS hA [1, 2] [0, 3, 4, 5, 6, 7, 8, 9, 10, 11, 12, 13, 14, 15] rfl rfl (by decide) (by decide) (fun r w1 H locs hw hP hD hS => ?_)
  obtain ⟨rfl, rfl⟩ := hw
  have hP : va_P D vwCl (wX q cI n S P x) H := hP.sub [0, 14, 15, 1, 2, 3, 4, 5, 6, 7, 8, 9, 10, 11, 12, 13] rfl
  have hD : va_D A (wX q cI n S P x) := hD.sub [0, 14, 15, 1, 2, 3, 4, 5, 6, 7, 8, 9, 10, 11, 12, 13] (by decide) rfl
  refine lv_iconst (v := nI 1) hx hb dDecreePool_isDeliverable_7 (by decide) ?_
  refine lv_iadd hx hb dDecreePool_isDeliverable_8 ?_
  refine lv_topi (nm_r (nI_add _ _) ?_)
  refine lv_aload_n hx hb dDecreePool_isDeliverable_9 rfl (lv_at hl 0 rfl) ?_
  refine va_get (D := D) (ci := 0) (v := .int (nI n)) (C := RDecreePool) (T := TDecreePool) (N := 9) hx hb hts (fun w h => mc (uDecreePool_in w h)) hown hK hP 0 rfl rfl 0 (by decide) (hts _ (mc wd105)) (fun _ h9 => h9) rfl dDecreePool_isDeliverable_10 ?_
  refine lv_icmp_ge (tgt := 24) hx hb dDecreePool_isDeliverable_13 (by decide) (fun c13 => ?_) (fun c13 => ?_)
  · refine lv_iconst (v := nI 1) hx hb dDecreePool_isDeliverable_24 (by decide) ?_
    refine lv_goto (tgt := 29) hx hb dDecreePool_isDeliverable_25 (by decide) ?_
    exact W.zret (v := nI 1) (ty := .boolean) hx hb hr (by decide) (fun t9 ht9 hW9 => ⟨⟨nI 1, (wX q cI n S P x), rfl, Or.inl ⟨rfl, fun h => absurd c13 (nI_ge h.2.1 (by omega)), rfl⟩, by rw [ht9]; exact hP, va_K.moved hW9.alike hK, hD⟩, hS.F ht9⟩) hS.2.2 dDecreePool_isDeliverable_29
  · have hlt : P - cntx P x + 1 < n := Nat.lt_of_not_le (fun q => c13 (nI_le q (by omega)))
    refine lv_aload_n hx hb dDecreePool_isDeliverable_16 rfl (lv_at hl 0 rfl) ?_
    refine lv_iload_n hx hb dDecreePool_isDeliverable_17 rfl (lv_at hl 1 rfl) ?_
    have hPc := hP.sub (ws' := (wX q cI n S P x)) [0, 1, 2, 3, 4, 5, 6, 7, 8, 9, 10, 11, 12, 13, 14, 15] rfl
    have hDc := hD.sub (ws' := (wX q cI n S P x)) [0, 1, 2, 3, 4, 5, 6, 7, 8, 9, 10, 11, 12, 13, 14, 15] (by decide) rfl
    refine kx_i (va_runV (As := [.int (nI j)]) (rest := []) ⟨hx, hb, hml, hown, hts⟩ ((c_isAnsweredToAll l D cI cZ q n S P x j (hn1) (hn5) (hS1) (hS4) (hP5) (hP64) (hj) (hV) (hI)) H.size) (cwV 1 hts (gV wd198 wd200 sl_DecreePool_isAnsweredToAll wd1 wd201) rfl rfl rfl (by decide +kernel) ⟨Nat.le_of_ble_eq_true rfl, Nat.le_of_ble_eq_true rfl⟩) ⟨fb_PW, va_recv (q0 := 0) (ci := 0) hK hPc rfl rfl, pre_PW hK hPc hDc hZ⟩ rfl rfl hl.1 rfl (lv_room (Nat.le_of_ble_eq_true rfl)) dDecreePool_isDeliverable_18 ⟨Nat.zero_le _, Nat.zero_le _⟩) hP hD hS hA [0, 1, 2, 3, 4, 5, 6, 7, 8, 9, 10, 11, 12, 13, 14, 15] [] rfl rfl (by decide) (by decide) (fun r w1 H locs hw hP hD hS => ?_)
    rcases hw with ⟨rfl, h18, rfl⟩ | ⟨rfl, h18, rfl⟩
    · have hP : va_P D vwCl (wX q cI n S P x) H := hP
      have hD : va_D A (wX q cI n S P x) := hD
      refine lv_if_ne (tgt := 28) hx hb dDecreePool_isDeliverable_21 (by decide) (fun _ => ?_) (fun h9 => absurd h9 (by decide))
      refine lv_iconst (v := nI 0) hx hb dDecreePool_isDeliverable_28 (by decide) ?_
      exact W.zret (v := nI 0) (ty := .boolean) hx hb hr (by decide) (fun t9 ht9 hW9 => ⟨⟨nI 0, (wX q cI n S P x), rfl, Or.inr ⟨rfl, ⟨h18.1, hlt, h18.2⟩, rfl⟩, by rw [ht9]; exact hP, va_K.moved hW9.alike hK, hD⟩, hS.F ht9⟩) hS.2.2 dDecreePool_isDeliverable_29
    · have hP : va_P D vwCl (wX q cI n S P x) H := hP
      have hD : va_D A (wX q cI n S P x) := hD
      refine lv_if_ne (tgt := 28) hx hb dDecreePool_isDeliverable_21 (by decide) (fun h9 => absurd (by decide) h9) (fun _ => ?_)
      refine lv_iconst (v := nI 1) hx hb dDecreePool_isDeliverable_24 (by decide) ?_
      refine lv_goto (tgt := 29) hx hb dDecreePool_isDeliverable_25 (by decide) ?_
      exact W.zret (v := nI 1) (ty := .boolean) hx hb hr (by decide) (fun t9 ht9 hW9 => ⟨⟨nI 1, (wX q cI n S P x), rfl, Or.inl ⟨rfl, fun h => h18 ⟨h.1, h.2.2⟩, rfl⟩, by rw [ht9]; exact hP, va_K.moved hW9.alike hK, hD⟩, hS.F ht9⟩) hS.2.2 dDecreePool_isDeliverable_29
theorem dDecreePool_leastDeliverable_0 : decode cDecreePool_leastDeliverable 0 = .ok (.iconst 0, 1) := by decide +kernel
theorem dDecreePool_leastDeliverable_1 : decode cDecreePool_leastDeliverable 1 = .ok (.istore_n 1, 1) := by decide +kernel
theorem dDecreePool_leastDeliverable_2 : decode cDecreePool_leastDeliverable 2 = .ok (.iload_n 1, 1) := by decide +kernel
theorem dDecreePool_leastDeliverable_3 : decode cDecreePool_leastDeliverable 3 = .ok (.aload_n 0, 1) := by decide +kernel
theorem dDecreePool_leastDeliverable_4 : decode cDecreePool_leastDeliverable 4 = .ok (.getfield 25, 3) := by decide +kernel
theorem dDecreePool_leastDeliverable_7 : decode cDecreePool_leastDeliverable 7 = .ok (.invokevirtual 161, 3) := by decide +kernel
theorem dDecreePool_leastDeliverable_10 : decode cDecreePool_leastDeliverable 10 = .ok (.if_icmp .ge 30, 3) := by decide +kernel
theorem dDecreePool_leastDeliverable_13 : decode cDecreePool_leastDeliverable 13 = .ok (.aload_n 0, 1) := by decide +kernel
theorem dDecreePool_leastDeliverable_14 : decode cDecreePool_leastDeliverable 14 = .ok (.getfield 25, 3) := by decide +kernel
theorem dDecreePool_leastDeliverable_17 : decode cDecreePool_leastDeliverable 17 = .ok (.iload_n 1, 1) := by decide +kernel
theorem dDecreePool_leastDeliverable_18 : decode cDecreePool_leastDeliverable 18 = .ok (.invokevirtual 89, 3) := by decide +kernel
theorem dDecreePool_leastDeliverable_21 : decode cDecreePool_leastDeliverable 21 = .ok (.ifCond .eq 13, 3) := by decide +kernel
theorem dDecreePool_leastDeliverable_24 : decode cDecreePool_leastDeliverable 24 = .ok (.aload_n 0, 1) := by decide +kernel
theorem dDecreePool_leastDeliverable_25 : decode cDecreePool_leastDeliverable 25 = .ok (.iload_n 1, 1) := by decide +kernel
theorem dDecreePool_leastDeliverable_26 : decode cDecreePool_leastDeliverable 26 = .ok (.invokevirtual 92, 3) := by decide +kernel
theorem dDecreePool_leastDeliverable_29 : decode cDecreePool_leastDeliverable 29 = .ok (.ifCond .eq 5, 3) := by decide +kernel
theorem dDecreePool_leastDeliverable_32 : decode cDecreePool_leastDeliverable 32 = .ok (.iload_n 1, 1) := by decide +kernel
theorem dDecreePool_leastDeliverable_33 : decode cDecreePool_leastDeliverable 33 = .ok (.ireturn, 1) := by decide +kernel
theorem dDecreePool_leastDeliverable_34 : decode cDecreePool_leastDeliverable 34 = .ok (.iinc 1  1, 3) := by decide +kernel
theorem dDecreePool_leastDeliverable_37 : decode cDecreePool_leastDeliverable 37 = .ok (.goto (-35), 3) := by decide +kernel
theorem dDecreePool_leastDeliverable_40 : decode cDecreePool_leastDeliverable 40 = .ok (.iconst (-1), 1) := by decide +kernel
theorem dDecreePool_leastDeliverable_41 : decode cDecreePool_leastDeliverable 41 = .ok (.ireturn, 1) := by decide +kernel
set_option maxRecDepth 100000 in
set_option maxHeartbeats 4000000 in
theorem c_leastDeliverable (l : Launch) (D : va_G) (cI cZ : ClassId) (q : Nat → Nat) (n : Nat) (S : Nat) (P : Nat) (x : St) (hn1 : 1 ≤ n) (hn5 : n ≤ 5) (hS1 : 1 ≤ S) (hS4 : S ≤ 4) (hP5 : 5 ≤ P) (hP64 : P ≤ 64) (hM : Imsg n S x) (hI : Ibit x) : MI l D [(cI, .int), (cZ, .boolean)] yDecreePool_leastDeliverable wsDecreePool_leastDeliverable ({ frames := 4, cells := 0, slots := 0, locals := 90 }) [.ref (q 0)] (wX q cI n S P x) (fun r w => (r = nI (ldv n P x P 0) ∧ (ldv n P x P 0 < P) ∧ w = (wX q cI n S P x)) ∨ (r = -1 ∧ (ldv n P x P 0 = P) ∧ w = (wX q cI n S P x))) := by
  intro sz
  refine Met.ofW (cc := cDecreePool_leastDeliverable) (maxL := 2) (ret := (Option.some .int)) (by decide) rfl ?_
  intro p e s m args below meth c s₁ B hml hv
  obtain ⟨rfl, hsz, hP, hK, hD0, hZ⟩ := hv
  have hx := B.exec
  have hb := B.bytes
  have hr := B.returns
  have hts := atoms_spec (ws := wsDecreePool_leastDeliverable) B.pre
  have hown : s.vm.findClass RDecreePool = some m.cls := findClass_of_methodNamed B.named
  have hlocks := B.notSynchronized
  subst hsz
  have hD := hD0.self (sz := s.heap.size)
  generalize hAe : va_A (wX q cI n S P x) s.heap.size = A at hD ⊢
  have hA : ∀ q : Nat, s.heap.size ≤ q → A q := fun q h => by rw [← hAe]; exact Or.inr h
  have hS : va_S A s.heap s.heap [] := va_S.rf
  have hP : va_P D vwCl (wX q cI n S P x) s.heap := hP
  have hl := lv_entry ([.ref (q 0)]) (n := 2) (Nat.le_of_ble_eq_true rfl)
  rw [lg_entry_eq]
  generalize (lg_sl ([.ref (q 0)]) ++ List.replicate (2 - (lg_sl ([.ref (q 0)])).length) Slot.unset).toArray = ls at hl ⊢
  have hl : lv_has ls 2 [(0, .ref (q 0))] := hl
  refine lv_iconst (v := nI 0) hx hb dDecreePool_leastDeliverable_0 (by decide) ?_
  refine lv_istore_n hx hb dDecreePool_leastDeliverable_1 rfl hl (by decide) rfl (fun ls hl => ?_)
  have hl : lv_has ls 2 [(1, .int (nI 0)), (0, .ref (q 0))] := hl
  have loop2 : ∀ (d2 i : Nat) (ls : Array Slot) (H : Heap) (locs : List Loc), i + d2 = P → ldv n P x d2 i = ldv n P x P 0 → lv_has ls 2 [(1, .int (nI i)), (0, .ref (q 0))] → va_P D vwCl (wX q cI n S P x) H → va_D A (wX q cI n S P x) → va_S A s.heap H locs → W p l e (headSpec wsDecreePool_leastDeliverable { frames := 4, cells := 0, slots := 0, locals := 90 }).room s m [.ref (q 0)].toArray below meth c H locs 0 0 (MQ below (va_Qi (fun r w => (r = nI (ldv n P x P 0) ∧ (ldv n P x P 0 < P) ∧ w = (wX q cI n S P x)) ∨ (r = -1 ∧ (ldv n P x P 0 = P) ∧ w = (wX q cI n S P x))) (QW D [(cI, .int), (cZ, .boolean)] A) A) [.ref (q 0)].toArray s 0 0 A) (F0 m 2 ls []) := by
    intro d2
    induction d2 with
    | zero =>
      intro i ls H locs hid2 hG hl hP hD hS
      refine lv_iload_n hx hb dDecreePool_leastDeliverable_2 rfl (lv_at hl 0 rfl) ?_
      refine lv_aload_n hx hb dDecreePool_leastDeliverable_3 rfl (lv_at hl 1 rfl) ?_
      refine va_get (D := D) (ci := 0) (v := .ref (q 1)) (C := RDecreePool) (T := TDecreePool) (N := 9) hx hb hts (fun w h => mc (uDecreePool_in w h)) hown hK hP 0 rfl rfl 2 (by decide) (hts _ (mc wd107)) (fun _ h9 => h9) rfl dDecreePool_leastDeliverable_4 ?_
      have hPc := hP.sub (ws' := (wPo q cI P (x.1 0) (cntx P x))) [1, 2] rfl
      have hDc := hD.sub (ws' := (wPo q cI P (x.1 0) (cntx P x))) [1, 2] (by decide) rfl
      refine kx_i (va_runV (As := []) (rest := [.int (nI i)]) ⟨hx, hb, hml, hown, hts⟩ ((c_places l D cI cZ q P (x.1 0) (cntx P x)) H.size) (cwV 0 hts (gV wd287 wd288 wd289 wd2 wd290) rfl rfl rfl (by decide +kernel) ⟨Nat.le_of_ble_eq_true rfl, Nat.le_of_ble_eq_true rfl⟩) ⟨fb_PW, va_recv (q0 := 0) (ci := 1) hK hPc rfl rfl, pre_PW hK hPc hDc hZ⟩ rfl rfl hl.1 rfl (lv_room (Nat.le_of_ble_eq_true rfl)) dDecreePool_leastDeliverable_7 ⟨Nat.zero_le _, Nat.zero_le _⟩) hP hD hS hA [1, 2] [0, 3, 4, 5, 6, 7, 8, 9, 10, 11, 12, 13, 14, 15] rfl rfl (by decide) (by decide) (fun r w1 H locs hw hP hD hS => ?_)
      obtain ⟨rfl, rfl⟩ := hw
      have hP : va_P D vwCl (wX q cI n S P x) H := hP.sub [0, 14, 15, 1, 2, 3, 4, 5, 6, 7, 8, 9, 10, 11, 12, 13] rfl
      have hD : va_D A (wX q cI n S P x) := hD.sub [0, 14, 15, 1, 2, 3, 4, 5, 6, 7, 8, 9, 10, 11, 12, 13] (by decide) rfl
      refine lv_icmp_ge (tgt := 40) hx hb dDecreePool_leastDeliverable_10 (by decide) (fun _ => ?_) (fun h9 => absurd (nI_le (by omega) (by omega)) h9)
      refine lv_iconst (v := (-1)) hx hb dDecreePool_leastDeliverable_40 (by decide) ?_
      exact W.iret (v := (-1)) hx hb hr (fun t9 ht9 hW9 => ⟨⟨(-1), (wX q cI n S P x), rfl, Or.inr ⟨rfl, (hG.symm.trans (show i = P by omega)), rfl⟩, by rw [ht9]; exact hP, va_K.moved hW9.alike hK, hD⟩, hS.F ht9⟩) hS.2.2 dDecreePool_leastDeliverable_41
    | succ d2 ih2 =>
      intro i ls H locs hid2 hG hl hP hD hS
      refine lv_iload_n hx hb dDecreePool_leastDeliverable_2 rfl (lv_at hl 0 rfl) ?_
      refine lv_aload_n hx hb dDecreePool_leastDeliverable_3 rfl (lv_at hl 1 rfl) ?_
      refine va_get (D := D) (ci := 0) (v := .ref (q 1)) (C := RDecreePool) (T := TDecreePool) (N := 9) hx hb hts (fun w h => mc (uDecreePool_in w h)) hown hK hP 0 rfl rfl 2 (by decide) (hts _ (mc wd107)) (fun _ h9 => h9) rfl dDecreePool_leastDeliverable_4 ?_
      have hPc := hP.sub (ws' := (wPo q cI P (x.1 0) (cntx P x))) [1, 2] rfl
      have hDc := hD.sub (ws' := (wPo q cI P (x.1 0) (cntx P x))) [1, 2] (by decide) rfl
      refine kx_i (va_runV (As := []) (rest := [.int (nI i)]) ⟨hx, hb, hml, hown, hts⟩ ((c_places l D cI cZ q P (x.1 0) (cntx P x)) H.size) (cwV 0 hts (gV wd287 wd288 wd289 wd2 wd290) rfl rfl rfl (by decide +kernel) ⟨Nat.le_of_ble_eq_true rfl, Nat.le_of_ble_eq_true rfl⟩) ⟨fb_PW, va_recv (q0 := 0) (ci := 1) hK hPc rfl rfl, pre_PW hK hPc hDc hZ⟩ rfl rfl hl.1 rfl (lv_room (Nat.le_of_ble_eq_true rfl)) dDecreePool_leastDeliverable_7 ⟨Nat.zero_le _, Nat.zero_le _⟩) hP hD hS hA [1, 2] [0, 3, 4, 5, 6, 7, 8, 9, 10, 11, 12, 13, 14, 15] rfl rfl (by decide) (by decide) (fun r w1 H locs hw hP hD hS => ?_)
      obtain ⟨rfl, rfl⟩ := hw
      have hP : va_P D vwCl (wX q cI n S P x) H := hP.sub [0, 14, 15, 1, 2, 3, 4, 5, 6, 7, 8, 9, 10, 11, 12, 13] rfl
      have hD : va_D A (wX q cI n S P x) := hD.sub [0, 14, 15, 1, 2, 3, 4, 5, 6, 7, 8, 9, 10, 11, 12, 13] (by decide) rfl
      refine lv_icmp_ge (tgt := 40) hx hb dDecreePool_leastDeliverable_10 (by decide) (fun h9 => absurd h9 (nI_ge (by omega) (by omega))) (fun _ => ?_)
      refine lv_aload_n hx hb dDecreePool_leastDeliverable_13 rfl (lv_at hl 1 rfl) ?_
      refine va_get (D := D) (ci := 0) (v := .ref (q 1)) (C := RDecreePool) (T := TDecreePool) (N := 9) hx hb hts (fun w h => mc (uDecreePool_in w h)) hown hK hP 0 rfl rfl 2 (by decide) (hts _ (mc wd107)) (fun _ h9 => h9) rfl dDecreePool_leastDeliverable_14 ?_
      refine lv_iload_n hx hb dDecreePool_leastDeliverable_17 rfl (lv_at hl 0 rfl) ?_
      have hPc := hP.sub (ws' := (wPo q cI P (x.1 0) (cntx P x))) [1, 2] rfl
      have hDc := hD.sub (ws' := (wPo q cI P (x.1 0) (cntx P x))) [1, 2] (by decide) rfl
      refine kx_i (va_runV (As := [.int (nI i)]) (rest := []) ⟨hx, hb, hml, hown, hts⟩ ((c_holds l D cI cZ q P (x.1 0) (cntx P x) (nI i) (hP64) (by omega)) H.size) (cwV 1 hts (gV wd189 wd190 wd191 wd2 wd192) rfl rfl rfl (by decide +kernel) ⟨Nat.le_of_ble_eq_true rfl, Nat.le_of_ble_eq_true rfl⟩) ⟨fb_PW, va_recv (q0 := 0) (ci := 1) hK hPc rfl rfl, pre_PW hK hPc hDc hZ⟩ rfl rfl hl.1 rfl (lv_room (Nat.le_of_ble_eq_true rfl)) dDecreePool_leastDeliverable_18 ⟨Nat.zero_le _, Nat.zero_le _⟩) hP hD hS hA [1, 2] [0, 3, 4, 5, 6, 7, 8, 9, 10, 11, 12, 13, 14, 15] rfl rfl (by decide) (by decide) (fun r w1 H locs hw hP hD hS => ?_)
      rcases hw with ⟨rfl, h18, rfl⟩ | ⟨rfl, h18, rfl⟩
      · have hP : va_P D vwCl (wX q cI n S P x) H := hP.sub [0, 14, 15, 1, 2, 3, 4, 5, 6, 7, 8, 9, 10, 11, 12, 13] rfl
        have hD : va_D A (wX q cI n S P x) := hD.sub [0, 14, 15, 1, 2, 3, 4, 5, 6, 7, 8, 9, 10, 11, 12, 13] (by decide) rfl
        rw [ix_nI (show i < P by omega) (by omega)] at h18
        refine lv_if_eq (tgt := 34) hx hb dDecreePool_leastDeliverable_21 (by decide) (fun h9 => absurd h9 (by decide)) (fun _ => ?_)
        refine lv_aload_n hx hb dDecreePool_leastDeliverable_24 rfl (lv_at hl 1 rfl) ?_
        refine lv_iload_n hx hb dDecreePool_leastDeliverable_25 rfl (lv_at hl 0 rfl) ?_
        have hPc := hP.sub (ws' := (wX q cI n S P x)) [0, 1, 2, 3, 4, 5, 6, 7, 8, 9, 10, 11, 12, 13, 14, 15] rfl
        have hDc := hD.sub (ws' := (wX q cI n S P x)) [0, 1, 2, 3, 4, 5, 6, 7, 8, 9, 10, 11, 12, 13, 14, 15] (by decide) rfl
        refine kx_i (va_runV (As := [.int (nI i)]) (rest := []) ⟨hx, hb, hml, hown, hts⟩ ((c_isDeliverable l D cI cZ q n S P x i (hn1) (hn5) (hS1) (hS4) (hP5) (hP64) (by omega) (hM i h18.2) (hI)) H.size) (cwV 1 hts (gV wd194 wd196 sl_DecreePool_isDeliverable wd1 wd197) rfl rfl rfl (by decide +kernel) ⟨Nat.le_of_ble_eq_true rfl, Nat.le_of_ble_eq_true rfl⟩) ⟨fb_PW, va_recv (q0 := 0) (ci := 0) hK hPc rfl rfl, pre_PW hK hPc hDc hZ⟩ rfl rfl hl.1 rfl (lv_room (Nat.le_of_ble_eq_true rfl)) dDecreePool_leastDeliverable_26 ⟨Nat.zero_le _, Nat.zero_le _⟩) hP hD hS hA [0, 1, 2, 3, 4, 5, 6, 7, 8, 9, 10, 11, 12, 13, 14, 15] [] rfl rfl (by decide) (by decide) (fun r w1 H locs hw hP hD hS => ?_)
        rcases hw with ⟨rfl, h26, rfl⟩ | ⟨rfl, h26, rfl⟩
        · have hP : va_P D vwCl (wX q cI n S P x) H := hP
          have hD : va_D A (wX q cI n S P x) := hD
          refine lv_if_eq (tgt := 34) hx hb dDecreePool_leastDeliverable_29 (by decide) (fun h9 => absurd h9 (by decide)) (fun _ => ?_)
          refine lv_iload_n hx hb dDecreePool_leastDeliverable_32 rfl (lv_at hl 0 rfl) ?_
          have hGi : i = ldv n P x P 0 := by rw [← hG]; exact (ldv_s ⟨h18.2, h26⟩).symm
          rw [hGi]
          exact W.iret (v := nI (ldv n P x P 0)) hx hb hr (fun t9 ht9 hW9 => ⟨⟨nI (ldv n P x P 0), (wX q cI n S P x), rfl, Or.inl ⟨rfl, (by omega), rfl⟩, by rw [ht9]; exact hP, va_K.moved hW9.alike hK, hD⟩, hS.F ht9⟩) hS.2.2 dDecreePool_leastDeliverable_33
        · have hP : va_P D vwCl (wX q cI n S P x) H := hP
          have hD : va_D A (wX q cI n S P x) := hD
          have hno : ¬ (x.1 0 i 0 ≠ 0 ∧ ¬ sBlk n P x i) := fun q => q.2 h26
          refine lv_if_eq (tgt := 34) hx hb dDecreePool_leastDeliverable_29 (by decide) (fun _ => ?_) (fun h9 => absurd (by decide) h9)
          refine lv_iinc (k := 0) (v := nI (i + 1)) hx hb dDecreePool_leastDeliverable_34 hl rfl ((nI_succ _).symm) (by decide) rfl (fun ls hl => ?_)
          have hl : lv_has ls 2 [(1, .int (nI (i + 1))), (0, .ref (q 0))] := hl
          refine lv_goto (tgt := 2) hx hb dDecreePool_leastDeliverable_37 (by decide) ?_
          exact ih2 (i + 1) ls H locs (by omega) (by rw [← hG]; exact (ldv_n hno).symm) hl hP hD hS
      · have hP : va_P D vwCl (wX q cI n S P x) H := hP.sub [0, 14, 15, 1, 2, 3, 4, 5, 6, 7, 8, 9, 10, 11, 12, 13] rfl
        have hD : va_D A (wX q cI n S P x) := hD.sub [0, 14, 15, 1, 2, 3, 4, 5, 6, 7, 8, 9, 10, 11, 12, 13] (by decide) rfl
        have hno : ¬ (x.1 0 i 0 ≠ 0 ∧ ¬ sBlk n P x i) := fun q => h18 ⟨okN_nI (by omega) (by omega), by rw [ix_nI (show i < P by omega) (by omega)]; exact q.1⟩
        refine lv_if_eq (tgt := 34) hx hb dDecreePool_leastDeliverable_21 (by decide) (fun _ => ?_) (fun h9 => absurd (by decide) h9)
        refine lv_iinc (k := 0) (v := nI (i + 1)) hx hb dDecreePool_leastDeliverable_34 hl rfl ((nI_succ _).symm) (by decide) rfl (fun ls hl => ?_)
        have hl : lv_has ls 2 [(1, .int (nI (i + 1))), (0, .ref (q 0))] := hl
        refine lv_goto (tgt := 2) hx hb dDecreePool_leastDeliverable_37 (by decide) ?_
        exact ih2 (i + 1) ls H locs (by omega) (by rw [← hG]; exact (ldv_n hno).symm) hl hP hD hS
  exact loop2 P 0 ls s.heap [] (by omega) (rfl) hl hP hD hS
