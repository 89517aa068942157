theorem dDecreePool_isWithin_0 : decode cDecreePool_isWithin 0 = .ok (.iload_n 0, 1) := by decide +kernel
theorem dDecreePool_isWithin_1 : decode cDecreePool_isWithin 1 = .ok (.iload_n 1, 1) := by decide +kernel
theorem dDecreePool_isWithin_2 : decode cDecreePool_isWithin 2 = .ok (.if_icmp .lt 12, 3) := by decide +kernel
theorem dDecreePool_isWithin_5 : decode cDecreePool_isWithin 5 = .ok (.iload_n 0, 1) := by decide +kernel
theorem dDecreePool_isWithin_6 : decode cDecreePool_isWithin 6 = .ok (.iload_n 2, 1) := by decide +kernel
theorem dDecreePool_isWithin_7 : decode cDecreePool_isWithin 7 = .ok (.if_icmp .gt 7, 3) := by decide +kernel
theorem dDecreePool_isWithin_10 : decode cDecreePool_isWithin 10 = .ok (.iconst 1, 1) := by decide +kernel
theorem dDecreePool_isWithin_11 : decode cDecreePool_isWithin 11 = .ok (.goto 4, 3) := by decide +kernel
theorem dDecreePool_isWithin_14 : decode cDecreePool_isWithin 14 = .ok (.iconst 0, 1) := by decide +kernel
theorem dDecreePool_isWithin_15 : decode cDecreePool_isWithin 15 = .ok (.ireturn, 1) := by decide +kernel
set_option maxRecDepth 100000 in
set_option maxHeartbeats 4000000 in
theorem c_isWithin (l : Launch) (D : va_G) (cI cZ : ClassId) (x : Int32) (a : Int32) (b : Int32) : MI l D [(cI, .int), (cZ, .boolean)] yDecreePool_isWithin wsDecreePool_isWithin ({ frames := 0, cells := 0, slots := 0, locals := 0 }) [.int x, .int a, .int b] ([] : va_W) (fun r w => (r = nI 1 ∧ (a ≤ x ∧ x ≤ b) ∧ w = ([] : va_W)) ∨ (r = nI 0 ∧ (¬ (a ≤ x ∧ x ≤ b)) ∧ w = ([] : va_W))) := by
  intro sz
  refine Met.ofW (cc := cDecreePool_isWithin) (maxL := 3) (ret := (Option.some .boolean)) (by decide) rfl ?_
  intro p e s m args below meth c s₁ B hml hv
  obtain ⟨rfl, hsz, hP, hK, hD0, hZ⟩ := hv
  have hx := B.exec
  have hb := B.bytes
  have hr := B.returns
  have hts := atoms_spec (ws := wsDecreePool_isWithin) B.pre
  have hown : s.vm.findClass RDecreePool = some m.cls := findClass_of_methodNamed B.named
  have hlocks := B.notSynchronized
  subst hsz
  have hD := hD0.self (sz := s.heap.size)
  generalize hAe : va_A ([] : va_W) s.heap.size = A at hD ⊢
  have hA : ∀ q : Nat, s.heap.size ≤ q → A q := fun q h => by rw [← hAe]; exact Or.inr h
  have hS : va_S A s.heap s.heap [] := va_S.rf
  have hP : va_P D vwCl ([] : va_W) s.heap := hP
  have hl := lv_entry ([.int x, .int a, .int b]) (n := 3) (Nat.le_of_ble_eq_true rfl)
  rw [lg_entry_eq]
  generalize (lg_sl ([.int x, .int a, .int b]) ++ List.replicate (3 - (lg_sl ([.int x, .int a, .int b])).length) Slot.unset).toArray = ls at hl ⊢
  have hl : lv_has ls 3 [(0, .int x), (1, .int a), (2, .int b)] := hl
  refine lv_iload_n hx hb dDecreePool_isWithin_0 rfl (lv_at hl 0 rfl) ?_
  refine lv_iload_n hx hb dDecreePool_isWithin_1 rfl (lv_at hl 1 rfl) ?_
  refine lv_icmp_lt (tgt := 14) hx hb dDecreePool_isWithin_2 (by decide) (fun c2 => ?_) (fun c2 => ?_)
  · refine lv_iconst (v := nI 0) hx hb dDecreePool_isWithin_14 (by decide) ?_
    exact W.zret (v := nI 0) (ty := .boolean) hx hb hr (by decide) (fun t9 ht9 hW9 => ⟨⟨nI 0, ([] : va_W), rfl, Or.inr ⟨rfl, fun h => absurd h.1 (Int32.not_le.mpr c2), rfl⟩, by rw [ht9]; exact hP, va_K.moved hW9.alike hK, hD⟩, hS.F ht9⟩) hS.2.2 dDecreePool_isWithin_15
  · refine lv_iload_n hx hb dDecreePool_isWithin_5 rfl (lv_at hl 0 rfl) ?_
    refine lv_iload_n hx hb dDecreePool_isWithin_6 rfl (lv_at hl 2 rfl) ?_
    refine lv_icmp_gt (tgt := 14) hx hb dDecreePool_isWithin_7 (by decide) (fun c7 => ?_) (fun c7 => ?_)
    · refine lv_iconst (v := nI 0) hx hb dDecreePool_isWithin_14 (by decide) ?_
      exact W.zret (v := nI 0) (ty := .boolean) hx hb hr (by decide) (fun t9 ht9 hW9 => ⟨⟨nI 0, ([] : va_W), rfl, Or.inr ⟨rfl, fun h => absurd h.2 (Int32.not_le.mpr c7), rfl⟩, by rw [ht9]; exact hP, va_K.moved hW9.alike hK, hD⟩, hS.F ht9⟩) hS.2.2 dDecreePool_isWithin_15
    · refine lv_iconst (v := nI 1) hx hb dDecreePool_isWithin_10 (by decide) ?_
      refine lv_goto (tgt := 15) hx hb dDecreePool_isWithin_11 (by decide) ?_
      exact W.zret (v := nI 1) (ty := .boolean) hx hb hr (by decide) (fun t9 ht9 hW9 => ⟨⟨nI 1, ([] : va_W), rfl, Or.inl ⟨rfl, ⟨Int32.not_lt.mp c2, Int32.not_lt.mp c7⟩, rfl⟩, by rw [ht9]; exact hP, va_K.moved hW9.alike hK, hD⟩, hS.F ht9⟩) hS.2.2 dDecreePool_isWithin_15
theorem dDecreePool_isMajority_0 : decode cDecreePool_isMajority 0 = .ok (.iconst 2, 1) := by decide +kernel
theorem dDecreePool_isMajority_1 : decode cDecreePool_isMajority 1 = .ok (.iload_n 0, 1) := by decide +kernel
theorem dDecreePool_isMajority_2 : decode cDecreePool_isMajority 2 = .ok (.imul, 1) := by decide +kernel
theorem dDecreePool_isMajority_3 : decode cDecreePool_isMajority 3 = .ok (.iload_n 1, 1) := by decide +kernel
theorem dDecreePool_isMajority_4 : decode cDecreePool_isMajority 4 = .ok (.if_icmp .le 7, 3) := by decide +kernel
theorem dDecreePool_isMajority_7 : decode cDecreePool_isMajority 7 = .ok (.iconst 1, 1) := by decide +kernel
theorem dDecreePool_isMajority_8 : decode cDecreePool_isMajority 8 = .ok (.goto 4, 3) := by decide +kernel
theorem dDecreePool_isMajority_11 : decode cDecreePool_isMajority 11 = .ok (.iconst 0, 1) := by decide +kernel
theorem dDecreePool_isMajority_12 : decode cDecreePool_isMajority 12 = .ok (.ireturn, 1) := by decide +kernel
set_option maxRecDepth 100000 in
set_option maxHeartbeats 4000000 in
theorem c_isMajority (l : Launch) (D : va_G) (cI cZ : ClassId) (k : Nat) (n : Nat) (hk5 : k ≤ 5) (hn5 : n ≤ 5) : MI l D [(cI, .int), (cZ, .boolean)] yDecreePool_isMajority wsDecreePool_isMajority ({ frames := 0, cells := 0, slots := 0, locals := 0 }) [.int (nI k), .int (nI n)] ([] : va_W) (fun r w => (r = nI 1 ∧ (n < 2 * k) ∧ w = ([] : va_W)) ∨ (r = nI 0 ∧ (¬ n < 2 * k) ∧ w = ([] : va_W))) := by
  intro sz
  refine Met.ofW (cc := cDecreePool_isMajority) (maxL := 2) (ret := (Option.some .boolean)) (by decide) rfl ?_
  intro p e s m args below meth c s₁ B hml hv
  obtain ⟨rfl, hsz, hP, hK, hD0, hZ⟩ := hv
  have hx := B.exec
  have hb := B.bytes
  have hr := B.returns
  have hts := atoms_spec (ws := wsDecreePool_isMajority) B.pre
  have hown : s.vm.findClass RDecreePool = some m.cls := findClass_of_methodNamed B.named
  have hlocks := B.notSynchronized
  subst hsz
  have hD := hD0.self (sz := s.heap.size)
  generalize hAe : va_A ([] : va_W) s.heap.size = A at hD ⊢
  have hA : ∀ q : Nat, s.heap.size ≤ q → A q := fun q h => by rw [← hAe]; exact Or.inr h
  have hS : va_S A s.heap s.heap [] := va_S.rf
  have hP : va_P D vwCl ([] : va_W) s.heap := hP
  have hl := lv_entry ([.int (nI k), .int (nI n)]) (n := 2) (Nat.le_of_ble_eq_true rfl)
  rw [lg_entry_eq]
  generalize (lg_sl ([.int (nI k), .int (nI n)]) ++ List.replicate (2 - (lg_sl ([.int (nI k), .int (nI n)])).length) Slot.unset).toArray = ls at hl ⊢
  have hl : lv_has ls 2 [(0, .int (nI k)), (1, .int (nI n))] := hl
  refine lv_iconst (v := nI 2) hx hb dDecreePool_isMajority_0 (by decide) ?_
  refine lv_iload_n hx hb dDecreePool_isMajority_1 rfl (lv_at hl 0 rfl) ?_
  refine lv_imul hx hb dDecreePool_isMajority_2 ?_
  refine lv_topi (nm_r (pk_mul _ _) ?_)
  refine lv_iload_n hx hb dDecreePool_isMajority_3 rfl (lv_at hl 1 rfl) ?_
  refine lv_icmp_le (tgt := 11) hx hb dDecreePool_isMajority_4 (by decide) (fun c4 => ?_) (fun c4 => ?_)
  · refine lv_iconst (v := nI 0) hx hb dDecreePool_isMajority_11 (by decide) ?_
    exact W.zret (v := nI 0) (ty := .boolean) hx hb hr (by decide) (fun t9 ht9 hW9 => ⟨⟨nI 0, ([] : va_W), rfl, Or.inr ⟨rfl, fun h => absurd c4 (nI_ge h (by omega)), rfl⟩, by rw [ht9]; exact hP, va_K.moved hW9.alike hK, hD⟩, hS.F ht9⟩) hS.2.2 dDecreePool_isMajority_12
  · refine lv_iconst (v := nI 1) hx hb dDecreePool_isMajority_7 (by decide) ?_
    refine lv_goto (tgt := 12) hx hb dDecreePool_isMajority_8 (by decide) ?_
    exact W.zret (v := nI 1) (ty := .boolean) hx hb hr (by decide) (fun t9 ht9 hW9 => ⟨⟨nI 1, ([] : va_W), rfl, Or.inl ⟨rfl, Nat.lt_of_not_le (fun q => c4 (nI_le q (by omega))), rfl⟩, by rw [ht9]; exact hP, va_K.moved hW9.alike hK, hD⟩, hS.F ht9⟩) hS.2.2 dDecreePool_isMajority_12
theorem dPool_places_0 : decode cPool_places 0 = .ok (.aload_n 0, 1) := by decide +kernel
theorem dPool_places_1 : decode cPool_places 1 = .ok (.getfield 9, 3) := by decide +kernel
theorem dPool_places_4 : decode cPool_places 4 = .ok (.ireturn, 1) := by decide +kernel
set_option maxRecDepth 100000 in
set_option maxHeartbeats 4000000 in
theorem c_places (l : Launch) (D : va_G) (cI cZ : ClassId) (q : Nat → Nat) (P : Nat) (g : Nat → Nat → Int32) (cn : Nat) : MI l D [(cI, .int), (cZ, .boolean)] yPool_places wsPool_places ({ frames := 0, cells := 0, slots := 0, locals := 0 }) [.ref (q 1)] (wPo q cI P g cn) (fun r w => r = nI P ∧ w = (wPo q cI P g cn)) := by
  intro sz
  refine Met.ofW (cc := cPool_places) (maxL := 1) (ret := (Option.some .int)) (by decide) rfl ?_
  intro p e s m args below meth c s₁ B hml hv
  obtain ⟨rfl, hsz, hP, hK, hD0, hZ⟩ := hv
  have hx := B.exec
  have hb := B.bytes
  have hr := B.returns
  have hts := atoms_spec (ws := wsPool_places) B.pre
  have hown : s.vm.findClass RPool = some m.cls := findClass_of_methodNamed B.named
  have hlocks := B.notSynchronized
  subst hsz
  have hD := hD0.self (sz := s.heap.size)
  generalize hAe : va_A (wPo q cI P g cn) s.heap.size = A at hD ⊢
  have hA : ∀ q : Nat, s.heap.size ≤ q → A q := fun q h => by rw [← hAe]; exact Or.inr h
  have hS : va_S A s.heap s.heap [] := va_S.rf
  have hP : va_P D vwCl (wPo q cI P g cn) s.heap := hP
  have hl := lv_entry ([.ref (q 1)]) (n := 1) (Nat.le_of_ble_eq_true rfl)
  rw [lg_entry_eq]
  generalize (lg_sl ([.ref (q 1)]) ++ List.replicate (1 - (lg_sl ([.ref (q 1)])).length) Slot.unset).toArray = ls at hl ⊢
  have hl : lv_has ls 1 [(0, .ref (q 1))] := hl
  refine lv_aload_n hx hb dPool_places_0 rfl (lv_at hl 0 rfl) ?_
  refine va_get (D := D) (ci := 1) (v := .int (nI P)) (C := RPool) (T := TPool) (N := 3) hx hb hts (fun w h => mc (uPool_in w h)) hown hK hP 0 rfl rfl 0 (by decide) (hts _ (mc wd26)) (fun _ h9 => h9) rfl dPool_places_1 ?_
  exact W.iret (v := nI P) hx hb hr (fun t9 ht9 hW9 => ⟨⟨nI P, (wPo q cI P g cn), rfl, ⟨rfl, rfl⟩, by rw [ht9]; exact hP, va_K.moved hW9.alike hK, hD⟩, hS.F ht9⟩) hS.2.2 dPool_places_4
theorem dPool_messages_0 : decode cPool_messages 0 = .ok (.aload_n 0, 1) := by decide +kernel
theorem dPool_messages_1 : decode cPool_messages 1 = .ok (.getfield 19, 3) := by decide +kernel
theorem dPool_messages_4 : decode cPool_messages 4 = .ok (.ireturn, 1) := by decide +kernel
set_option maxRecDepth 100000 in
set_option maxHeartbeats 4000000 in
theorem c_messages (l : Launch) (D : va_G) (cI cZ : ClassId) (q : Nat → Nat) (P : Nat) (g : Nat → Nat → Int32) (cn : Nat) : MI l D [(cI, .int), (cZ, .boolean)] yPool_messages wsPool_messages ({ frames := 0, cells := 0, slots := 0, locals := 0 }) [.ref (q 1)] (wPo q cI P g cn) (fun r w => r = nI cn ∧ w = (wPo q cI P g cn)) := by
  intro sz
  refine Met.ofW (cc := cPool_messages) (maxL := 1) (ret := (Option.some .int)) (by decide) rfl ?_
  intro p e s m args below meth c s₁ B hml hv
  obtain ⟨rfl, hsz, hP, hK, hD0, hZ⟩ := hv
  have hx := B.exec
  have hb := B.bytes
  have hr := B.returns
  have hts := atoms_spec (ws := wsPool_messages) B.pre
  have hown : s.vm.findClass RPool = some m.cls := findClass_of_methodNamed B.named
  have hlocks := B.notSynchronized
  subst hsz
  have hD := hD0.self (sz := s.heap.size)
  generalize hAe : va_A (wPo q cI P g cn) s.heap.size = A at hD ⊢
  have hA : ∀ q : Nat, s.heap.size ≤ q → A q := fun q h => by rw [← hAe]; exact Or.inr h
  have hS : va_S A s.heap s.heap [] := va_S.rf
  have hP : va_P D vwCl (wPo q cI P g cn) s.heap := hP
  have hl := lv_entry ([.ref (q 1)]) (n := 1) (Nat.le_of_ble_eq_true rfl)
  rw [lg_entry_eq]
  generalize (lg_sl ([.ref (q 1)]) ++ List.replicate (1 - (lg_sl ([.ref (q 1)])).length) Slot.unset).toArray = ls at hl ⊢
  have hl : lv_has ls 1 [(0, .ref (q 1))] := hl
  refine lv_aload_n hx hb dPool_messages_0 rfl (lv_at hl 0 rfl) ?_
  refine va_get (D := D) (ci := 1) (v := .int (nI cn)) (C := RPool) (T := TPool) (N := 3) hx hb hts (fun w h => mc (uPool_in w h)) hown hK hP 0 rfl rfl 2 (by decide) (hts _ (mc wd28)) (fun _ h9 => h9) rfl dPool_messages_1 ?_
  exact W.iret (v := nI cn) hx hb hr (fun t9 ht9 hW9 => ⟨⟨nI cn, (wPo q cI P g cn), rfl, ⟨rfl, rfl⟩, by rw [ht9]; exact hP, va_K.moved hW9.alike hK, hD⟩, hS.F ht9⟩) hS.2.2 dPool_messages_4
theorem dPool_emptyPlaces_0 : decode cPool_emptyPlaces 0 = .ok (.aload_n 0, 1) := by decide +kernel
theorem dPool_emptyPlaces_1 : decode cPool_emptyPlaces 1 = .ok (.getfield 9, 3) := by decide +kernel
theorem dPool_emptyPlaces_4 : decode cPool_emptyPlaces 4 = .ok (.aload_n 0, 1) := by decide +kernel
theorem dPool_emptyPlaces_5 : decode cPool_emptyPlaces 5 = .ok (.getfield 19, 3) := by decide +kernel
theorem dPool_emptyPlaces_8 : decode cPool_emptyPlaces 8 = .ok (.isub, 1) := by decide +kernel
theorem dPool_emptyPlaces_9 : decode cPool_emptyPlaces 9 = .ok (.ireturn, 1) := by decide +kernel
set_option maxRecDepth 100000 in
set_option maxHeartbeats 4000000 in
theorem c_emptyPlaces (l : Launch) (D : va_G) (cI cZ : ClassId) (q : Nat → Nat) (P : Nat) (g : Nat → Nat → Int32) (cn : Nat) (hcP : cn ≤ P) : MI l D [(cI, .int), (cZ, .boolean)] yPool_emptyPlaces wsPool_emptyPlaces ({ frames := 0, cells := 0, slots := 0, locals := 0 }) [.ref (q 1)] (wPo q cI P g cn) (fun r w => r = nI (P - cn) ∧ w = (wPo q cI P g cn)) := by
  intro sz
  refine Met.ofW (cc := cPool_emptyPlaces) (maxL := 1) (ret := (Option.some .int)) (by decide) rfl ?_
  intro p e s m args below meth c s₁ B hml hv
  obtain ⟨rfl, hsz, hP, hK, hD0, hZ⟩ := hv
  have hx := B.exec
  have hb := B.bytes
  have hr := B.returns
  have hts := atoms_spec (ws := wsPool_emptyPlaces) B.pre
  have hown : s.vm.findClass RPool = some m.cls := findClass_of_methodNamed B.named
  have hlocks := B.notSynchronized
  subst hsz
  have hD := hD0.self (sz := s.heap.size)
  generalize hAe : va_A (wPo q cI P g cn) s.heap.size = A at hD ⊢
  have hA : ∀ q : Nat, s.heap.size ≤ q → A q := fun q h => by rw [← hAe]; exact Or.inr h
  have hS : va_S A s.heap s.heap [] := va_S.rf
  have hP : va_P D vwCl (wPo q cI P g cn) s.heap := hP
  have hl := lv_entry ([.ref (q 1)]) (n := 1) (Nat.le_of_ble_eq_true rfl)
  rw [lg_entry_eq]
  generalize (lg_sl ([.ref (q 1)]) ++ List.replicate (1 - (lg_sl ([.ref (q 1)])).length) Slot.unset).toArray = ls at hl ⊢
  have hl : lv_has ls 1 [(0, .ref (q 1))] := hl
  refine lv_aload_n hx hb dPool_emptyPlaces_0 rfl (lv_at hl 0 rfl) ?_
  refine va_get (D := D) (ci := 1) (v := .int (nI P)) (C := RPool) (T := TPool) (N := 3) hx hb hts (fun w h => mc (uPool_in w h)) hown hK hP 0 rfl rfl 0 (by decide) (hts _ (mc wd26)) (fun _ h9 => h9) rfl dPool_emptyPlaces_1 ?_
  refine lv_aload_n hx hb dPool_emptyPlaces_4 rfl (lv_at hl 0 rfl) ?_
  refine va_get (D := D) (ci := 1) (v := .int (nI cn)) (C := RPool) (T := TPool) (N := 3) hx hb hts (fun w h => mc (uPool_in w h)) hown hK hP 0 rfl rfl 2 (by decide) (hts _ (mc wd28)) (fun _ h9 => h9) rfl dPool_emptyPlaces_5 ?_
  refine lv_isub hx hb dPool_emptyPlaces_8 ?_
  refine lv_topi (nm_r (pk_sub (by omega)) ?_)
  exact W.iret (v := nI (P - cn)) hx hb hr (fun t9 ht9 hW9 => ⟨⟨nI (P - cn), (wPo q cI P g cn), rfl, ⟨rfl, rfl⟩, by rw [ht9]; exact hP, va_K.moved hW9.alike hK, hD⟩, hS.F ht9⟩) hS.2.2 dPool_emptyPlaces_9
theorem dPool_field_0 : decode cPool_field 0 = .ok (.aload_n 0, 1) := by decide +kernel
theorem dPool_field_1 : decode cPool_field 1 = .ok (.getfield 15, 3) := by decide +kernel
theorem dPool_field_4 : decode cPool_field 4 = .ok (.iload_n 1, 1) := by decide +kernel
theorem dPool_field_5 : decode cPool_field 5 = .ok (.bipush 7, 2) := by decide +kernel
theorem dPool_field_7 : decode cPool_field 7 = .ok (.imul, 1) := by decide +kernel
theorem dPool_field_8 : decode cPool_field 8 = .ok (.iload_n 2, 1) := by decide +kernel
theorem dPool_field_9 : decode cPool_field 9 = .ok (.iadd, 1) := by decide +kernel
theorem dPool_field_10 : decode cPool_field 10 = .ok (.iaload, 1) := by decide +kernel
theorem dPool_field_11 : decode cPool_field 11 = .ok (.ireturn, 1) := by decide +kernel
set_option maxRecDepth 100000 in
set_option maxHeartbeats 4000000 in
theorem c_field (l : Launch) (D : va_G) (cI cZ : ClassId) (q : Nat → Nat) (P : Nat) (g : Nat → Nat → Int32) (cn : Nat) (j : Nat) (k : Nat) (hP64 : P ≤ 64) (hj : j < P) (hk7 : k < 7) : MI l D [(cI, .int), (cZ, .boolean)] yPool_field wsPool_field ({ frames := 0, cells := 0, slots := 0, locals := 0 }) [.ref (q 1), .int (nI j), .int (nI k)] (wPo q cI P g cn) (fun r w => r = g j k ∧ w = (wPo q cI P g cn)) := by
  intro sz
  refine Met.ofW (cc := cPool_field) (maxL := 3) (ret := (Option.some .int)) (by decide) rfl ?_
  intro p e s m args below meth c s₁ B hml hv
  obtain ⟨rfl, hsz, hP, hK, hD0, hZ⟩ := hv
  have hx := B.exec
  have hb := B.bytes
  have hr := B.returns
  have hts := atoms_spec (ws := wsPool_field) B.pre
  have hown : s.vm.findClass RPool = some m.cls := findClass_of_methodNamed B.named
  have hlocks := B.notSynchronized
  subst hsz
  have hD := hD0.self (sz := s.heap.size)
  generalize hAe : va_A (wPo q cI P g cn) s.heap.size = A at hD ⊢
  have hA : ∀ q : Nat, s.heap.size ≤ q → A q := fun q h => by rw [← hAe]; exact Or.inr h
  have hS : va_S A s.heap s.heap [] := va_S.rf
  have hP : va_P D vwCl (wPo q cI P g cn) s.heap := hP
  have hl := lv_entry ([.ref (q 1), .int (nI j), .int (nI k)]) (n := 3) (Nat.le_of_ble_eq_true rfl)
  rw [lg_entry_eq]
  generalize (lg_sl ([.ref (q 1), .int (nI j), .int (nI k)]) ++ List.replicate (3 - (lg_sl ([.ref (q 1), .int (nI j), .int (nI k)])).length) Slot.unset).toArray = ls at hl ⊢
  have hl : lv_has ls 3 [(0, .ref (q 1)), (1, .int (nI j)), (2, .int (nI k))] := hl
  refine lv_aload_n hx hb dPool_field_0 rfl (lv_at hl 0 rfl) ?_
  refine va_get (D := D) (ci := 1) (v := .ref (q 2)) (C := RPool) (T := TPool) (N := 3) hx hb hts (fun w h => mc (uPool_in w h)) hown hK hP 0 rfl rfl 1 (by decide) (hts _ (mc wd27)) (fun _ h9 => h9) rfl dPool_field_1 ?_
  refine lv_iload_n hx hb dPool_field_4 rfl (lv_at hl 1 rfl) ?_
  refine lv_bipush (v := nI 7) hx hb dPool_field_5 (by decide) ?_
  refine lv_imul hx hb dPool_field_7 ?_
  refine lv_topi (nm_r (pk_mul _ _) ?_)
  refine lv_iload_n hx hb dPool_field_8 rfl (lv_at hl 2 rfl) ?_
  refine lv_iadd hx hb dPool_field_9 ?_
  refine lv_topi (nm_r (nI_add _ _) ?_)
  refine ka_ld (v := g j k) hx hb hK hP 1 0 rfl rfl (by omega) (by omega) (sq_at (by omega)) dPool_field_10 ?_
  exact W.iret (v := g j k) hx hb hr (fun t9 ht9 hW9 => ⟨⟨g j k, (wPo q cI P g cn), rfl, ⟨rfl, rfl⟩, by rw [ht9]; exact hP, va_K.moved hW9.alike hK, hD⟩, hS.F ht9⟩) hS.2.2 dPool_field_11
theorem dPool_takeOut_0 : decode cPool_takeOut 0 = .ok (.aload_n 0, 1) := by decide +kernel
theorem dPool_takeOut_1 : decode cPool_takeOut 1 = .ok (.getfield 15, 3) := by decide +kernel
theorem dPool_takeOut_4 : decode cPool_takeOut 4 = .ok (.iload_n 1, 1) := by decide +kernel
theorem dPool_takeOut_5 : decode cPool_takeOut 5 = .ok (.bipush 7, 2) := by decide +kernel
theorem dPool_takeOut_7 : decode cPool_takeOut 7 = .ok (.imul, 1) := by decide +kernel
theorem dPool_takeOut_8 : decode cPool_takeOut 8 = .ok (.iconst 0, 1) := by decide +kernel
theorem dPool_takeOut_9 : decode cPool_takeOut 9 = .ok (.iadd, 1) := by decide +kernel
theorem dPool_takeOut_10 : decode cPool_takeOut 10 = .ok (.iconst 0, 1) := by decide +kernel
theorem dPool_takeOut_11 : decode cPool_takeOut 11 = .ok (.iastore, 1) := by decide +kernel
theorem dPool_takeOut_12 : decode cPool_takeOut 12 = .ok (.aload_n 0, 1) := by decide +kernel
theorem dPool_takeOut_13 : decode cPool_takeOut 13 = .ok (.dup, 1) := by decide +kernel
theorem dPool_takeOut_14 : decode cPool_takeOut 14 = .ok (.getfield 19, 3) := by decide +kernel
theorem dPool_takeOut_17 : decode cPool_takeOut 17 = .ok (.iconst 1, 1) := by decide +kernel
theorem dPool_takeOut_18 : decode cPool_takeOut 18 = .ok (.isub, 1) := by decide +kernel
theorem dPool_takeOut_19 : decode cPool_takeOut 19 = .ok (.putfield 19, 3) := by decide +kernel
theorem dPool_takeOut_22 : decode cPool_takeOut 22 = .ok (.return_, 1) := by decide +kernel
set_option maxRecDepth 100000 in
set_option maxHeartbeats 4000000 in
theorem c_takeOut (l : Launch) (D : va_G) (cI cZ : ClassId) (q : Nat → Nat) (P : Nat) (g : Nat → Nat → Int32) (cn : Nat) (j : Nat) (hP64 : P ≤ 64) (hj : j < P) (hc1 : 1 ≤ cn) : MV l D [(cI, .int), (cZ, .boolean)] yPool_takeOut wsPool_takeOut ({ frames := 0, cells := 0, slots := 0, locals := 0 }) [.ref (q 1), .int (nI j)] (wPo q cI P g cn) (fun w => w = (wPo q cI P (up2 g j 0 (nI 0)) (cn - 1))) := by
  intro sz
  refine Met.ofW (cc := cPool_takeOut) (maxL := 2) (ret := (Option.none : Option ClassFile.FieldType)) (by decide) rfl ?_
  intro p e s m args below meth c s₁ B hml hv
  obtain ⟨rfl, hsz, hP, hK, hD0, hZ⟩ := hv
  have hx := B.exec
  have hb := B.bytes
  have hr := B.returns
  have hts := atoms_spec (ws := wsPool_takeOut) B.pre
  have hown : s.vm.findClass RPool = some m.cls := findClass_of_methodNamed B.named
  have hlocks := B.notSynchronized
  subst hsz
  have hD := hD0.self (sz := s.heap.size)
  generalize hAe : va_A (wPo q cI P g cn) s.heap.size = A at hD ⊢
  have hA : ∀ q : Nat, s.heap.size ≤ q → A q := fun q h => by rw [← hAe]; exact Or.inr h
  have hS : va_S A s.heap s.heap [] := va_S.rf
  have hP : va_P D vwCl (wPo q cI P g cn) s.heap := hP
  have hl := lv_entry ([.ref (q 1), .int (nI j)]) (n := 2) (Nat.le_of_ble_eq_true rfl)
  rw [lg_entry_eq]
  generalize (lg_sl ([.ref (q 1), .int (nI j)]) ++ List.replicate (2 - (lg_sl ([.ref (q 1), .int (nI j)])).length) Slot.unset).toArray = ls at hl ⊢
  have hl : lv_has ls 2 [(0, .ref (q 1)), (1, .int (nI j))] := hl
  refine lv_aload_n hx hb dPool_takeOut_0 rfl (lv_at hl 0 rfl) ?_
  refine va_get (D := D) (ci := 1) (v := .ref (q 2)) (C := RPool) (T := TPool) (N := 3) hx hb hts (fun w h => mc (uPool_in w h)) hown hK hP 0 rfl rfl 1 (by decide) (hts _ (mc wd27)) (fun _ h9 => h9) rfl dPool_takeOut_1 ?_
  refine lv_iload_n hx hb dPool_takeOut_4 rfl (lv_at hl 1 rfl) ?_
  refine lv_bipush (v := nI 7) hx hb dPool_takeOut_5 (by decide) ?_
  refine lv_imul hx hb dPool_takeOut_7 ?_
  refine lv_topi (nm_r (pk_mul _ _) ?_)
  refine lv_iconst (v := nI 0) hx hb dPool_takeOut_8 (by decide) ?_
  refine lv_iadd hx hb dPool_takeOut_9 ?_
  refine lv_topi (nm_r (nI_add _ _) ?_)
  refine lv_iconst (v := nI 0) hx hb dPool_takeOut_10 (by decide) ?_
  refine ka_st (f' := sq 7 (up2 g j 0 (nI 0))) hx hb hK hP hD hS 1 0 rfl rfl (by omega) (by omega) (sq_up (by omega)) dPool_takeOut_11 (fun H locs hP hD hS => ?_)
  have hP : va_P D vwCl (wPo q cI P (up2 g j 0 (nI 0)) cn) H := hP
  have hD : va_D A (wPo q cI P (up2 g j 0 (nI 0)) cn) := hD
  refine lv_aload_n hx hb dPool_takeOut_12 rfl (lv_at hl 0 rfl) ?_
  refine lv_dup hx hb dPool_takeOut_13 rfl ?_
  refine va_get (D := D) (ci := 1) (v := .int (nI cn)) (C := RPool) (T := TPool) (N := 3) hx hb hts (fun w h => mc (uPool_in w h)) hown hK hP 0 rfl rfl 2 (by decide) (hts _ (mc wd28)) (fun _ h9 => h9) rfl dPool_takeOut_14 ?_
  refine lv_iconst (v := nI 1) hx hb dPool_takeOut_17 (by decide) ?_
  refine lv_isub hx hb dPool_takeOut_18 ?_
  refine lv_topi (nm_r (pk_sub (by omega)) ?_)
  refine va_put (D := D) (ci := 1) (v := .int (nI (cn - 1))) (ty := .int) (C := RPool) (T := TPool) (N := 3) hx hb hts (fun w h => mc (uPool_in w h)) tyPool tyPool_ok nmPool hown hK hP hD hS 0 rfl rfl 2 (by decide) (hts _ (mc wd28)) (fun _ h9 => h9) rfl (by decide +kernel) rfl rfl (Nat.le_of_ble_eq_true rfl) dPool_takeOut_19 (fun H locs hP hD hS => ?_)
  have hP : va_P D vwCl (wPo q cI P (up2 g j 0 (nI 0)) (cn - 1)) H := hP
  have hD : va_D A (wPo q cI P (up2 g j 0 (nI 0)) (cn - 1)) := hD
  exact W.vret hx hb hr (fun t9 ht9 hW9 => ⟨⟨(wPo q cI P (up2 g j 0 (nI 0)) (cn - 1)), rfl, rfl, by rw [ht9]; exact hP, va_K.moved hW9.alike hK, hD⟩, hS.F ht9⟩) hS.2.2 dPool_takeOut_22
theorem dPool_holds_0 : decode cPool_holds 0 = .ok (.iload_n 1, 1) := by decide +kernel
theorem dPool_holds_1 : decode cPool_holds 1 = .ok (.iconst 0, 1) := by decide +kernel
theorem dPool_holds_2 : decode cPool_holds 2 = .ok (.aload_n 0, 1) := by decide +kernel
theorem dPool_holds_3 : decode cPool_holds 3 = .ok (.getfield 9, 3) := by decide +kernel
theorem dPool_holds_6 : decode cPool_holds 6 = .ok (.iconst 1, 1) := by decide +kernel
theorem dPool_holds_7 : decode cPool_holds 7 = .ok (.isub, 1) := by decide +kernel
theorem dPool_holds_8 : decode cPool_holds 8 = .ok (.invokestatic 22, 3) := by decide +kernel
theorem dPool_holds_11 : decode cPool_holds 11 = .ok (.ifCond .eq 16, 3) := by decide +kernel
theorem dPool_holds_14 : decode cPool_holds 14 = .ok (.aload_n 0, 1) := by decide +kernel
theorem dPool_holds_15 : decode cPool_holds 15 = .ok (.iload_n 1, 1) := by decide +kernel
theorem dPool_holds_16 : decode cPool_holds 16 = .ok (.iconst 0, 1) := by decide +kernel
theorem dPool_holds_17 : decode cPool_holds 17 = .ok (.invokevirtual 26, 3) := by decide +kernel
theorem dPool_holds_20 : decode cPool_holds 20 = .ok (.ifCond .eq 7, 3) := by decide +kernel
theorem dPool_holds_23 : decode cPool_holds 23 = .ok (.iconst 1, 1) := by decide +kernel
theorem dPool_holds_24 : decode cPool_holds 24 = .ok (.goto 4, 3) := by decide +kernel
theorem dPool_holds_27 : decode cPool_holds 27 = .ok (.iconst 0, 1) := by decide +kernel
theorem dPool_holds_28 : decode cPool_holds 28 = .ok (.ireturn, 1) := by decide +kernel
set_option maxRecDepth 100000 in
set_option maxHeartbeats 4000000 in
theorem c_holds (l : Launch) (D : va_G) (cI cZ : ClassId) (q : Nat → Nat) (P : Nat) (g : Nat → Nat → Int32) (cn : Nat) (v : Int32) (hP64 : P ≤ 64) (hP1 : 1 ≤ P) : MI l D [(cI, .int), (cZ, .boolean)] yPool_holds wsPool_holds ({ frames := 1, cells := 0, slots := 0, locals := 22 }) [.ref (q 1), .int v] (wPo q cI P g cn) (fun r w => (r = nI 1 ∧ (okN v P ∧ g (ix v) 0 ≠ 0) ∧ w = (wPo q cI P g cn)) ∨ (r = nI 0 ∧ (¬ (okN v P ∧ g (ix v) 0 ≠ 0)) ∧ w = (wPo q cI P g cn))) := by
  intro sz
  refine Met.ofW (cc := cPool_holds) (maxL := 2) (ret := (Option.some .boolean)) (by decide) rfl ?_
  intro p e s m args below meth c s₁ B hml hv
  obtain ⟨rfl, hsz, hP, hK, hD0, hZ⟩ := hv
  have hx := B.exec
  have hb := B.bytes
  have hr := B.returns
  have hts := atoms_spec (ws := wsPool_holds) B.pre
  have hown : s.vm.findClass RPool = some m.cls := findClass_of_methodNamed B.named
  have hlocks := B.notSynchronized
  subst hsz
  have hD := hD0.self (sz := s.heap.size)
  generalize hAe : va_A (wPo q cI P g cn) s.heap.size = A at hD ⊢
  have hA : ∀ q : Nat, s.heap.size ≤ q → A q := fun q h => by rw [← hAe]; exact Or.inr h
  have hS : va_S A s.heap s.heap [] := va_S.rf
  have hP : va_P D vwCl (wPo q cI P g cn) s.heap := hP
  have hl := lv_entry ([.ref (q 1), .int v]) (n := 2) (Nat.le_of_ble_eq_true rfl)
  rw [lg_entry_eq]
  generalize (lg_sl ([.ref (q 1), .int v]) ++ List.replicate (2 - (lg_sl ([.ref (q 1), .int v])).length) Slot.unset).toArray = ls at hl ⊢
  have hl : lv_has ls 2 [(0, .ref (q 1)), (1, .int v)] := hl
  refine lv_iload_n hx hb dPool_holds_0 rfl (lv_at hl 1 rfl) ?_
  refine lv_iconst (v := nI 0) hx hb dPool_holds_1 (by decide) ?_
  refine lv_aload_n hx hb dPool_holds_2 rfl (lv_at hl 0 rfl) ?_
  refine va_get (D := D) (ci := 1) (v := .int (nI P)) (C := RPool) (T := TPool) (N := 3) hx hb hts (fun w h => mc (uPool_in w h)) hown hK hP 0 rfl rfl 0 (by decide) (hts _ (mc wd26)) (fun _ h9 => h9) rfl dPool_holds_3 ?_
  refine lv_iconst (v := nI 1) hx hb dPool_holds_6 (by decide) ?_
  refine lv_isub hx hb dPool_holds_7 ?_
  refine lv_topi (nm_r (pk_sub (by omega)) ?_)
  have hPc := hP.sub (ws' := ([] : va_W)) [] rfl
  have hDc := hD.sub (ws' := ([] : va_W)) [] (by decide) rfl
  refine kx_i (va_runSN (As := [.int v, .int (nI 0), .int (nI (P - 1))]) (rest := []) ⟨hx, hb, hml, hown, hts⟩ ((c_isWithin l D cI cZ v (nI 0) (nI (P - 1))) s.heap.size) ⟨va_cnB 3 hts (gC wd19) rfl rfl rfl (hZ.n1) (hts _ (mc wd1)) (by decide +kernel) ⟨Nat.le_of_ble_eq_true rfl, Nat.le_of_ble_eq_true rfl⟩, hts _ (mc wd18), trivial⟩ ⟨fb_PW, pre_PW hK hPc hDc hZ⟩ rfl rfl hl.1 rfl (lv_room (Nat.le_of_ble_eq_true rfl)) dPool_holds_8 ⟨Nat.zero_le _, Nat.zero_le _⟩) hP hD hS hA [] [0, 1] rfl rfl (by decide) (by decide) (fun r w1 H locs hw hP hD hS => ?_)
  rcases hw with ⟨rfl, h8, rfl⟩ | ⟨rfl, h8, rfl⟩
  · have hP : va_P D vwCl (wPo q cI P g cn) H := hP
    have hD : va_D A (wPo q cI P g cn) := hD
    obtain ⟨j, hj, rfl⟩ := wi_of hP1 (by omega) h8
    refine lv_if_eq (tgt := 27) hx hb dPool_holds_11 (by decide) (fun h9 => absurd h9 (by decide)) (fun _ => ?_)
    refine lv_aload_n hx hb dPool_holds_14 rfl (lv_at hl 0 rfl) ?_
    refine lv_iload_n hx hb dPool_holds_15 rfl (lv_at hl 1 rfl) ?_
    refine lv_iconst (v := nI 0) hx hb dPool_holds_16 (by decide) ?_
    have hPc := hP.sub (ws' := (wPo q cI P g cn)) [0, 1] rfl
    have hDc := hD.sub (ws' := (wPo q cI P g cn)) [0, 1] (by decide) rfl
    refine kx_i (va_runV (As := [.int (nI j), .int (nI 0)]) (rest := []) ⟨hx, hb, hml, hown, hts⟩ ((c_field l D cI cZ q P g cn j 0 (hP64) (by omega) (by omega)) H.size) (cwV 2 hts (gV wd181 wd182 wd183 wd2 wd184) rfl rfl rfl (by decide +kernel) ⟨Nat.le_of_ble_eq_true rfl, Nat.le_of_ble_eq_true rfl⟩) ⟨fb_PW, va_recv (q0 := 0) (ci := 1) hK hPc rfl rfl, pre_PW hK hPc hDc hZ⟩ rfl rfl hl.1 rfl (lv_room (Nat.le_of_ble_eq_true rfl)) dPool_holds_17 ⟨Nat.zero_le _, Nat.zero_le _⟩) hP hD hS hA [0, 1] [] rfl rfl (by decide) (by decide) (fun r w1 H locs hw hP hD hS => ?_)
    obtain ⟨rfl, rfl⟩ := hw
    have hP : va_P D vwCl (wPo q cI P g cn) H := hP
    have hD : va_D A (wPo q cI P g cn) := hD
    refine lv_if_eq (tgt := 27) hx hb dPool_holds_20 (by decide) (fun c20 => ?_) (fun c20 => ?_)
    · refine lv_iconst (v := nI 0) hx hb dPool_holds_27 (by decide) ?_
      exact W.zret (v := nI 0) (ty := .boolean) hx hb hr (by decide) (fun t9 ht9 hW9 => ⟨⟨nI 0, (wPo q cI P g cn), rfl, Or.inr ⟨rfl, fun h => h.2 (by rw [ix_nI hj (by omega)]; exact c20), rfl⟩, by rw [ht9]; exact hP, va_K.moved hW9.alike hK, hD⟩, hS.F ht9⟩) hS.2.2 dPool_holds_28
    · refine lv_iconst (v := nI 1) hx hb dPool_holds_23 (by decide) ?_
      refine lv_goto (tgt := 28) hx hb dPool_holds_24 (by decide) ?_
      exact W.zret (v := nI 1) (ty := .boolean) hx hb hr (by decide) (fun t9 ht9 hW9 => ⟨⟨nI 1, (wPo q cI P g cn), rfl, Or.inl ⟨rfl, ⟨okN_nI hj (by omega), by rw [ix_nI hj (by omega)]; exact c20⟩, rfl⟩, by rw [ht9]; exact hP, va_K.moved hW9.alike hK, hD⟩, hS.F ht9⟩) hS.2.2 dPool_holds_28
  · have hP : va_P D vwCl (wPo q cI P g cn) H := hP
    have hD : va_D A (wPo q cI P g cn) := hD
    refine lv_if_eq (tgt := 27) hx hb dPool_holds_11 (by decide) (fun _ => ?_) (fun h9 => absurd (by decide) h9)
    refine lv_iconst (v := nI 0) hx hb dPool_holds_27 (by decide) ?_
    exact W.zret (v := nI 0) (ty := .boolean) hx hb hr (by decide) (fun t9 ht9 hW9 => ⟨⟨nI 0, (wPo q cI P g cn), rfl, Or.inr ⟨rfl, fun h => wi_no (by omega) h8 h.1, rfl⟩, by rw [ht9]; exact hP, va_K.moved hW9.alike hK, hD⟩, hS.F ht9⟩) hS.2.2 dPool_holds_28
theorem dPool_leastEmpty_0 : decode cPool_leastEmpty 0 = .ok (.iconst 0, 1) := by decide +kernel
theorem dPool_leastEmpty_1 : decode cPool_leastEmpty 1 = .ok (.istore_n 1, 1) := by decide +kernel
theorem dPool_leastEmpty_2 : decode cPool_leastEmpty 2 = .ok (.iload_n 1, 1) := by decide +kernel
theorem dPool_leastEmpty_3 : decode cPool_leastEmpty 3 = .ok (.aload_n 0, 1) := by decide +kernel
theorem dPool_leastEmpty_4 : decode cPool_leastEmpty 4 = .ok (.getfield 9, 3) := by decide +kernel
theorem dPool_leastEmpty_7 : decode cPool_leastEmpty 7 = .ok (.if_icmp .ge 20, 3) := by decide +kernel
theorem dPool_leastEmpty_10 : decode cPool_leastEmpty 10 = .ok (.aload_n 0, 1) := by decide +kernel
theorem dPool_leastEmpty_11 : decode cPool_leastEmpty 11 = .ok (.iload_n 1, 1) := by decide +kernel
theorem dPool_leastEmpty_12 : decode cPool_leastEmpty 12 = .ok (.iconst 0, 1) := by decide +kernel
theorem dPool_leastEmpty_13 : decode cPool_leastEmpty 13 = .ok (.invokevirtual 26, 3) := by decide +kernel
theorem dPool_leastEmpty_16 : decode cPool_leastEmpty 16 = .ok (.ifCond .ne 5, 3) := by decide +kernel
theorem dPool_leastEmpty_19 : decode cPool_leastEmpty 19 = .ok (.iload_n 1, 1) := by decide +kernel
theorem dPool_leastEmpty_20 : decode cPool_leastEmpty 20 = .ok (.ireturn, 1) := by decide +kernel
theorem dPool_leastEmpty_21 : decode cPool_leastEmpty 21 = .ok (.iinc 1  1, 3) := by decide +kernel
theorem dPool_leastEmpty_24 : decode cPool_leastEmpty 24 = .ok (.goto (-22), 3) := by decide +kernel
theorem dPool_leastEmpty_27 : decode cPool_leastEmpty 27 = .ok (.iconst (-1), 1) := by decide +kernel
theorem dPool_leastEmpty_28 : decode cPool_leastEmpty 28 = .ok (.ireturn, 1) := by decide +kernel
set_option maxRecDepth 100000 in
set_option maxHeartbeats 4000000 in
theorem c_leastEmpty (l : Launch) (D : va_G) (cI cZ : ClassId) (q : Nat → Nat) (P : Nat) (g : Nat → Nat → Int32) (cn : Nat) (hP64 : P ≤ 64) : MI l D [(cI, .int), (cZ, .boolean)] yPool_leastEmpty wsPool_leastEmpty ({ frames := 1, cells := 0, slots := 0, locals := 22 }) [.ref (q 1)] (wPo q cI P g cn) (fun r w => (r = nI (lst (col g 0) P 0) ∧ (lst (col g 0) P 0 < P) ∧ w = (wPo q cI P g cn)) ∨ (r = -1 ∧ (lst (col g 0) P 0 = P) ∧ w = (wPo q cI P g cn))) := by
  intro sz
  refine Met.ofW (cc := cPool_leastEmpty) (maxL := 2) (ret := (Option.some .int)) (by decide) rfl ?_
  intro p e s m args below meth c s₁ B hml hv
  obtain ⟨rfl, hsz, hP, hK, hD0, hZ⟩ := hv
  have hx := B.exec
  have hb := B.bytes
  have hr := B.returns
  have hts := atoms_spec (ws := wsPool_leastEmpty) B.pre
  have hown : s.vm.findClass RPool = some m.cls := findClass_of_methodNamed B.named
  have hlocks := B.notSynchronized
  subst hsz
  have hD := hD0.self (sz := s.heap.size)
  generalize hAe : va_A (wPo q cI P g cn) s.heap.size = A at hD ⊢
  have hA : ∀ q : Nat, s.heap.size ≤ q → A q := fun q h => by rw [← hAe]; exact Or.inr h
  have hS : va_S A s.heap s.heap [] := va_S.rf
  have hP : va_P D vwCl (wPo q cI P g cn) s.heap := hP
  have hl := lv_entry ([.ref (q 1)]) (n := 2) (Nat.le_of_ble_eq_true rfl)
  rw [lg_entry_eq]
  generalize (lg_sl ([.ref (q 1)]) ++ List.replicate (2 - (lg_sl ([.ref (q 1)])).length) Slot.unset).toArray = ls at hl ⊢
  have hl : lv_has ls 2 [(0, .ref (q 1))] := hl
  refine lv_iconst (v := nI 0) hx hb dPool_leastEmpty_0 (by decide) ?_
  refine lv_istore_n hx hb dPool_leastEmpty_1 rfl hl (by decide) rfl (fun ls hl => ?_)
  have hl : lv_has ls 2 [(1, .int (nI 0)), (0, .ref (q 1))] := hl
  have loop2 : ∀ (d2 i : Nat) (ls : Array Slot) (H : Heap) (locs : List Loc), i + d2 = P → lst (col g 0) d2 i = lst (col g 0) P 0 → lv_has ls 2 [(1, .int (nI i)), (0, .ref (q 1))] → va_P D vwCl (wPo q cI P g cn) H → va_D A (wPo q cI P g cn) → va_S A s.heap H locs → W p l e (headSpec wsPool_leastEmpty { frames := 1, cells := 0, slots := 0, locals := 22 }).room s m [.ref (q 1)].toArray below meth c H locs 0 0 (MQ below (va_Qi (fun r w => (r = nI (lst (col g 0) P 0) ∧ (lst (col g 0) P 0 < P) ∧ w = (wPo q cI P g cn)) ∨ (r = -1 ∧ (lst (col g 0) P 0 = P) ∧ w = (wPo q cI P g cn))) (QW D [(cI, .int), (cZ, .boolean)] A) A) [.ref (q 1)].toArray s 0 0 A) (F0 m 2 ls []) := by
    intro d2
    induction d2 with
    | zero =>
      intro i ls H locs hid2 hL hl hP hD hS
      refine lv_iload_n hx hb dPool_leastEmpty_2 rfl (lv_at hl 0 rfl) ?_
      refine lv_aload_n hx hb dPool_leastEmpty_3 rfl (lv_at hl 1 rfl) ?_
      refine va_get (D := D) (ci := 1) (v := .int (nI P)) (C := RPool) (T := TPool) (N := 3) hx hb hts (fun w h => mc (uPool_in w h)) hown hK hP 0 rfl rfl 0 (by decide) (hts _ (mc wd26)) (fun _ h9 => h9) rfl dPool_leastEmpty_4 ?_
      refine lv_icmp_ge (tgt := 27) hx hb dPool_leastEmpty_7 (by decide) (fun _ => ?_) (fun h9 => absurd (nI_le (by omega) (by omega)) h9)
      refine lv_iconst (v := (-1)) hx hb dPool_leastEmpty_27 (by decide) ?_
      exact W.iret (v := (-1)) hx hb hr (fun t9 ht9 hW9 => ⟨⟨(-1), (wPo q cI P g cn), rfl, Or.inr ⟨rfl, (by rw [← hL]; unfold lst; omega), rfl⟩, by rw [ht9]; exact hP, va_K.moved hW9.alike hK, hD⟩, hS.F ht9⟩) hS.2.2 dPool_leastEmpty_28
    | succ d2 ih2 =>
      intro i ls H locs hid2 hL hl hP hD hS
      refine lv_iload_n hx hb dPool_leastEmpty_2 rfl (lv_at hl 0 rfl) ?_
      refine lv_aload_n hx hb dPool_leastEmpty_3 rfl (lv_at hl 1 rfl) ?_
      refine va_get (D := D) (ci := 1) (v := .int (nI P)) (C := RPool) (T := TPool) (N := 3) hx hb hts (fun w h => mc (uPool_in w h)) hown hK hP 0 rfl rfl 0 (by decide) (hts _ (mc wd26)) (fun _ h9 => h9) rfl dPool_leastEmpty_4 ?_
      refine lv_icmp_ge (tgt := 27) hx hb dPool_leastEmpty_7 (by decide) (fun h9 => absurd h9 (nI_ge (by omega) (by omega))) (fun _ => ?_)
      refine lv_aload_n hx hb dPool_leastEmpty_10 rfl (lv_at hl 1 rfl) ?_
      refine lv_iload_n hx hb dPool_leastEmpty_11 rfl (lv_at hl 0 rfl) ?_
      refine lv_iconst (v := nI 0) hx hb dPool_leastEmpty_12 (by decide) ?_
      have hPc := hP.sub (ws' := (wPo q cI P g cn)) [0, 1] rfl
      have hDc := hD.sub (ws' := (wPo q cI P g cn)) [0, 1] (by decide) rfl
      refine kx_i (va_runV (As := [.int (nI i), .int (nI 0)]) (rest := []) ⟨hx, hb, hml, hown, hts⟩ ((c_field l D cI cZ q P g cn i 0 (hP64) (by omega) (by omega)) H.size) (cwV 2 hts (gV wd181 wd182 wd183 wd2 wd184) rfl rfl rfl (by decide +kernel) ⟨Nat.le_of_ble_eq_true rfl, Nat.le_of_ble_eq_true rfl⟩) ⟨fb_PW, va_recv (q0 := 0) (ci := 1) hK hPc rfl rfl, pre_PW hK hPc hDc hZ⟩ rfl rfl hl.1 rfl (lv_room (Nat.le_of_ble_eq_true rfl)) dPool_leastEmpty_13 ⟨Nat.zero_le _, Nat.zero_le _⟩) hP hD hS hA [0, 1] [] rfl rfl (by decide) (by decide) (fun r w1 H locs hw hP hD hS => ?_)
      obtain ⟨rfl, rfl⟩ := hw
      have hP : va_P D vwCl (wPo q cI P g cn) H := hP
      have hD : va_D A (wPo q cI P g cn) := hD
      refine lv_if_ne (tgt := 21) hx hb dPool_leastEmpty_16 (by decide) (fun c16 => ?_) (fun c16 => ?_)
      · refine lv_iinc (k := 0) (v := nI (i + 1)) hx hb dPool_leastEmpty_21 hl rfl ((nI_succ _).symm) (by decide) rfl (fun ls hl => ?_)
        have hl : lv_has ls 2 [(1, .int (nI (i + 1))), (0, .ref (q 1))] := hl
        refine lv_goto (tgt := 2) hx hb dPool_leastEmpty_24 (by decide) ?_
        exact ih2 (i + 1) ls H locs (by omega) (by rw [← hL]; exact (lst_n (f := col g 0) c16).symm) hl hP hD hS
      · refine lv_iload_n hx hb dPool_leastEmpty_19 rfl (lv_at hl 0 rfl) ?_
        have hLi : i = lst (col g 0) P 0 := by rw [← hL]; exact (lst_s (f := col g 0) c16).symm
        rw [hLi]
        exact W.iret (v := nI (lst (col g 0) P 0)) hx hb hr (fun t9 ht9 hW9 => ⟨⟨nI (lst (col g 0) P 0), (wPo q cI P g cn), rfl, Or.inl ⟨rfl, (by omega), rfl⟩, by rw [ht9]; exact hP, va_K.moved hW9.alike hK, hD⟩, hS.F ht9⟩) hS.2.2 dPool_leastEmpty_20
  exact loop2 P 0 ls s.heap [] (by omega) (rfl) hl hP hD hS
theorem dPool_send_0 : decode cPool_send 0 = .ok (.aload_n 0, 1) := by decide +kernel
theorem dPool_send_1 : decode cPool_send 1 = .ok (.invokevirtual 30, 3) := by decide +kernel
theorem dPool_send_4 : decode cPool_send 4 = .ok (.istore 8, 2) := by decide +kernel
theorem dPool_send_6 : decode cPool_send 6 = .ok (.iload 8, 2) := by decide +kernel
theorem dPool_send_8 : decode cPool_send 8 = .ok (.iconst (-1), 1) := by decide +kernel
theorem dPool_send_9 : decode cPool_send 9 = .ok (.if_icmp .ne 5, 3) := by decide +kernel
theorem dPool_send_12 : decode cPool_send 12 = .ok (.iconst (-1), 1) := by decide +kernel
theorem dPool_send_13 : decode cPool_send 13 = .ok (.ireturn, 1) := by decide +kernel
theorem dPool_send_14 : decode cPool_send 14 = .ok (.iload 8, 2) := by decide +kernel
theorem dPool_send_16 : decode cPool_send 16 = .ok (.bipush 7, 2) := by decide +kernel
theorem dPool_send_18 : decode cPool_send 18 = .ok (.imul, 1) := by decide +kernel
theorem dPool_send_19 : decode cPool_send 19 = .ok (.istore 9, 2) := by decide +kernel
theorem dPool_send_21 : decode cPool_send 21 = .ok (.aload_n 0, 1) := by decide +kernel
theorem dPool_send_22 : decode cPool_send 22 = .ok (.getfield 15, 3) := by decide +kernel
theorem dPool_send_25 : decode cPool_send 25 = .ok (.iload 9, 2) := by decide +kernel
theorem dPool_send_27 : decode cPool_send 27 = .ok (.iconst 0, 1) := by decide +kernel
theorem dPool_send_28 : decode cPool_send 28 = .ok (.iadd, 1) := by decide +kernel
theorem dPool_send_29 : decode cPool_send 29 = .ok (.iload_n 1, 1) := by decide +kernel
theorem dPool_send_30 : decode cPool_send 30 = .ok (.iastore, 1) := by decide +kernel
theorem dPool_send_31 : decode cPool_send 31 = .ok (.aload_n 0, 1) := by decide +kernel
theorem dPool_send_32 : decode cPool_send 32 = .ok (.getfield 15, 3) := by decide +kernel
theorem dPool_send_35 : decode cPool_send 35 = .ok (.iload 9, 2) := by decide +kernel
theorem dPool_send_37 : decode cPool_send 37 = .ok (.iconst 1, 1) := by decide +kernel
theorem dPool_send_38 : decode cPool_send 38 = .ok (.iadd, 1) := by decide +kernel
theorem dPool_send_39 : decode cPool_send 39 = .ok (.iload_n 2, 1) := by decide +kernel
theorem dPool_send_40 : decode cPool_send 40 = .ok (.iastore, 1) := by decide +kernel
theorem dPool_send_41 : decode cPool_send 41 = .ok (.aload_n 0, 1) := by decide +kernel
theorem dPool_send_42 : decode cPool_send 42 = .ok (.getfield 15, 3) := by decide +kernel
theorem dPool_send_45 : decode cPool_send 45 = .ok (.iload 9, 2) := by decide +kernel
theorem dPool_send_47 : decode cPool_send 47 = .ok (.iconst 2, 1) := by decide +kernel
theorem dPool_send_48 : decode cPool_send 48 = .ok (.iadd, 1) := by decide +kernel
theorem dPool_send_49 : decode cPool_send 49 = .ok (.iload_n 3, 1) := by decide +kernel
theorem dPool_send_50 : decode cPool_send 50 = .ok (.iastore, 1) := by decide +kernel
theorem dPool_send_51 : decode cPool_send 51 = .ok (.aload_n 0, 1) := by decide +kernel
theorem dPool_send_52 : decode cPool_send 52 = .ok (.getfield 15, 3) := by decide +kernel
theorem dPool_send_55 : decode cPool_send 55 = .ok (.iload 9, 2) := by decide +kernel
theorem dPool_send_57 : decode cPool_send 57 = .ok (.iconst 3, 1) := by decide +kernel
theorem dPool_send_58 : decode cPool_send 58 = .ok (.iadd, 1) := by decide +kernel
theorem dPool_send_59 : decode cPool_send 59 = .ok (.iload 4, 2) := by decide +kernel
theorem dPool_send_61 : decode cPool_send 61 = .ok (.iastore, 1) := by decide +kernel
theorem dPool_send_62 : decode cPool_send 62 = .ok (.aload_n 0, 1) := by decide +kernel
theorem dPool_send_63 : decode cPool_send 63 = .ok (.getfield 15, 3) := by decide +kernel
theorem dPool_send_66 : decode cPool_send 66 = .ok (.iload 9, 2) := by decide +kernel
theorem dPool_send_68 : decode cPool_send 68 = .ok (.iconst 4, 1) := by decide +kernel
theorem dPool_send_69 : decode cPool_send 69 = .ok (.iadd, 1) := by decide +kernel
theorem dPool_send_70 : decode cPool_send 70 = .ok (.iload 5, 2) := by decide +kernel
theorem dPool_send_72 : decode cPool_send 72 = .ok (.iastore, 1) := by decide +kernel
theorem dPool_send_73 : decode cPool_send 73 = .ok (.aload_n 0, 1) := by decide +kernel
theorem dPool_send_74 : decode cPool_send 74 = .ok (.getfield 15, 3) := by decide +kernel
theorem dPool_send_77 : decode cPool_send 77 = .ok (.iload 9, 2) := by decide +kernel
theorem dPool_send_79 : decode cPool_send 79 = .ok (.iconst 5, 1) := by decide +kernel
theorem dPool_send_80 : decode cPool_send 80 = .ok (.iadd, 1) := by decide +kernel
theorem dPool_send_81 : decode cPool_send 81 = .ok (.iload 6, 2) := by decide +kernel
theorem dPool_send_83 : decode cPool_send 83 = .ok (.iastore, 1) := by decide +kernel
theorem dPool_send_84 : decode cPool_send 84 = .ok (.aload_n 0, 1) := by decide +kernel
theorem dPool_send_85 : decode cPool_send 85 = .ok (.getfield 15, 3) := by decide +kernel
theorem dPool_send_88 : decode cPool_send 88 = .ok (.iload 9, 2) := by decide +kernel
theorem dPool_send_90 : decode cPool_send 90 = .ok (.bipush 6, 2) := by decide +kernel
theorem dPool_send_92 : decode cPool_send 92 = .ok (.iadd, 1) := by decide +kernel
theorem dPool_send_93 : decode cPool_send 93 = .ok (.iload 7, 2) := by decide +kernel
theorem dPool_send_95 : decode cPool_send 95 = .ok (.iastore, 1) := by decide +kernel
theorem dPool_send_96 : decode cPool_send 96 = .ok (.aload_n 0, 1) := by decide +kernel
theorem dPool_send_97 : decode cPool_send 97 = .ok (.dup, 1) := by decide +kernel
theorem dPool_send_98 : decode cPool_send 98 = .ok (.getfield 19, 3) := by decide +kernel
theorem dPool_send_101 : decode cPool_send 101 = .ok (.iconst 1, 1) := by decide +kernel
theorem dPool_send_102 : decode cPool_send 102 = .ok (.iadd, 1) := by decide +kernel
theorem dPool_send_103 : decode cPool_send 103 = .ok (.putfield 19, 3) := by decide +kernel
theorem dPool_send_106 : decode cPool_send 106 = .ok (.iload 8, 2) := by decide +kernel
theorem dPool_send_108 : decode cPool_send 108 = .ok (.ireturn, 1) := by decide +kernel
set_option maxRecDepth 100000 in
set_option maxHeartbeats 4000000 in
theorem c_send (l : Launch) (D : va_G) (cI cZ : ClassId) (q : Nat → Nat) (P : Nat) (g : Nat → Nat → Int32) (cn : Nat) (k : Int32) (s1 : Int32) (r1 : Int32) (sl : Int32) (b : Int32) (v : Int32) (o : Int32) (hP64 : P ≤ 64) : MI l D [(cI, .int), (cZ, .boolean)] yPool_send wsPool_send ({ frames := 2, cells := 0, slots := 0, locals := 43 }) [.ref (q 1), .int k, .int s1, .int r1, .int sl, .int b, .int v, .int o] (wPo q cI P g cn) (fun r w => (r = nI (lst (col g 0) P 0) ∧ (lst (col g 0) P 0 < P) ∧ w = (wPo q cI P (up7 g (lst (col g 0) P 0) k s1 r1 sl b v o) (cn + 1))) ∨ (r = -1 ∧ (lst (col g 0) P 0 = P) ∧ w = (wPo q cI P g cn))) := by
  intro sz
  refine Met.ofW (cc := cPool_send) (maxL := 10) (ret := (Option.some .int)) (by decide) rfl ?_
  intro p e s m args below meth c s₁ B hml hv
  obtain ⟨rfl, hsz, hP, hK, hD0, hZ⟩ := hv
  have hx := B.exec
  have hb := B.bytes
  have hr := B.returns
  have hts := atoms_spec (ws := wsPool_send) B.pre
  have hown : s.vm.findClass RPool = some m.cls := findClass_of_methodNamed B.named
  have hlocks := B.notSynchronized
  subst hsz
  have hD := hD0.self (sz := s.heap.size)
  generalize hAe : va_A (wPo q cI P g cn) s.heap.size = A at hD ⊢
  have hA : ∀ q : Nat, s.heap.size ≤ q → A q := fun q h => by rw [← hAe]; exact Or.inr h
  have hS : va_S A s.heap s.heap [] := va_S.rf
  have hP : va_P D vwCl (wPo q cI P g cn) s.heap := hP
  have hl := lv_entry ([.ref (q 1), .int k, .int s1, .int r1, .int sl, .int b, .int v, .int o]) (n := 10) (Nat.le_of_ble_eq_true rfl)
  rw [lg_entry_eq]
  generalize (lg_sl ([.ref (q 1), .int k, .int s1, .int r1, .int sl, .int b, .int v, .int o]) ++ List.replicate (10 - (lg_sl ([.ref (q 1), .int k, .int s1, .int r1, .int sl, .int b, .int v, .int o])).length) Slot.unset).toArray = ls at hl ⊢
  have hl : lv_has ls 10 [(0, .ref (q 1)), (1, .int k), (2, .int s1), (3, .int r1), (4, .int sl), (5, .int b), (6, .int v), (7, .int o)] := hl
  refine lv_aload_n hx hb dPool_send_0 rfl (lv_at hl 0 rfl) ?_
  have hPc := hP.sub (ws' := (wPo q cI P g cn)) [0, 1] rfl
  have hDc := hD.sub (ws' := (wPo q cI P g cn)) [0, 1] (by decide) rfl
  refine kx_i (va_runV (As := []) (rest := []) ⟨hx, hb, hml, hown, hts⟩ ((c_leastEmpty l D cI cZ q P g cn (hP64)) s.heap.size) (cwV 0 hts (gV wd177 wd179 sl_Pool_leastEmpty wd2 wd180) rfl rfl rfl (by decide +kernel) ⟨Nat.le_of_ble_eq_true rfl, Nat.le_of_ble_eq_true rfl⟩) ⟨fb_PW, va_recv (q0 := 0) (ci := 1) hK hPc rfl rfl, pre_PW hK hPc hDc hZ⟩ rfl rfl hl.1 rfl (lv_room (Nat.le_of_ble_eq_true rfl)) dPool_send_1 ⟨Nat.zero_le _, Nat.zero_le _⟩) hP hD hS hA [0, 1] [] rfl rfl (by decide) (by decide) (fun r w1 H locs hw hP hD hS => ?_)
  rcases hw with ⟨rfl, h1, rfl⟩ | ⟨rfl, h1, rfl⟩
  · have hP : va_P D vwCl (wPo q cI P g cn) H := hP
    have hD : va_D A (wPo q cI P g cn) := hD
    refine lv_istore hx hb dPool_send_4 hl (by decide) rfl (fun ls hl => ?_)
    have hl : lv_has ls 10 [(8, .int (nI (lst (col g 0) P 0))), (0, .ref (q 1)), (1, .int k), (2, .int s1), (3, .int r1), (4, .int sl), (5, .int b), (6, .int v), (7, .int o)] := hl
    refine lv_iload hx hb dPool_send_6 (lv_at hl 0 rfl) ?_
    refine lv_iconst (v := (-1)) hx hb dPool_send_8 (by decide) ?_
    refine lv_icmp_ne (tgt := 14) hx hb dPool_send_9 (by decide) (fun _ => ?_) (fun h9 => absurd h9 (nI_nm1 (by omega)))
    refine lv_iload hx hb dPool_send_14 (lv_at hl 0 rfl) ?_
    refine lv_bipush (v := nI 7) hx hb dPool_send_16 (by decide) ?_
    refine lv_imul hx hb dPool_send_18 ?_
    refine lv_topi (nm_r (pk_mul _ _) ?_)
    refine lv_istore hx hb dPool_send_19 hl (by decide) rfl (fun ls hl => ?_)
    have hl : lv_has ls 10 [(9, .int (nI ((lst (col g 0) P 0) * 7))), (8, .int (nI (lst (col g 0) P 0))), (0, .ref (q 1)), (1, .int k), (2, .int s1), (3, .int r1), (4, .int sl), (5, .int b), (6, .int v), (7, .int o)] := hl
    refine lv_aload_n hx hb dPool_send_21 rfl (lv_at hl 2 rfl) ?_
    refine va_get (D := D) (ci := 1) (v := .ref (q 2)) (C := RPool) (T := TPool) (N := 3) hx hb hts (fun w h => mc (uPool_in w h)) hown hK hP 0 rfl rfl 1 (by decide) (hts _ (mc wd27)) (fun _ h9 => h9) rfl dPool_send_22 ?_
    refine lv_iload hx hb dPool_send_25 (lv_at hl 0 rfl) ?_
    refine lv_iconst (v := nI 0) hx hb dPool_send_27 (by decide) ?_
    refine lv_iadd hx hb dPool_send_28 ?_
    refine lv_topi (nm_r (nI_add _ _) ?_)
    refine lv_iload_n hx hb dPool_send_29 rfl (lv_at hl 3 rfl) ?_
    refine ka_st (f' := sq 7 (up2 g (lst (col g 0) P 0) 0 k)) hx hb hK hP hD hS 1 0 rfl rfl (by omega) (by omega) (sq_up (by omega)) dPool_send_30 (fun H locs hP hD hS => ?_)
    have hP : va_P D vwCl (wPo q cI P (up2 g (lst (col g 0) P 0) 0 k) cn) H := hP
    have hD : va_D A (wPo q cI P (up2 g (lst (col g 0) P 0) 0 k) cn) := hD
    refine lv_aload_n hx hb dPool_send_31 rfl (lv_at hl 2 rfl) ?_
    refine va_get (D := D) (ci := 1) (v := .ref (q 2)) (C := RPool) (T := TPool) (N := 3) hx hb hts (fun w h => mc (uPool_in w h)) hown hK hP 0 rfl rfl 1 (by decide) (hts _ (mc wd27)) (fun _ h9 => h9) rfl dPool_send_32 ?_
    refine lv_iload hx hb dPool_send_35 (lv_at hl 0 rfl) ?_
    refine lv_iconst (v := nI 1) hx hb dPool_send_37 (by decide) ?_
    refine lv_iadd hx hb dPool_send_38 ?_
    refine lv_topi (nm_r (nI_add _ _) ?_)
    refine lv_iload_n hx hb dPool_send_39 rfl (lv_at hl 4 rfl) ?_
    refine ka_st (f' := sq 7 (up2 (up2 g (lst (col g 0) P 0) 0 k) (lst (col g 0) P 0) 1 s1)) hx hb hK hP hD hS 1 0 rfl rfl (by omega) (by omega) (sq_up (by omega)) dPool_send_40 (fun H locs hP hD hS => ?_)
    have hP : va_P D vwCl (wPo q cI P (up2 (up2 g (lst (col g 0) P 0) 0 k) (lst (col g 0) P 0) 1 s1) cn) H := hP
    have hD : va_D A (wPo q cI P (up2 (up2 g (lst (col g 0) P 0) 0 k) (lst (col g 0) P 0) 1 s1) cn) := hD
    refine lv_aload_n hx hb dPool_send_41 rfl (lv_at hl 2 rfl) ?_
    refine va_get (D := D) (ci := 1) (v := .ref (q 2)) (C := RPool) (T := TPool) (N := 3) hx hb hts (fun w h => mc (uPool_in w h)) hown hK hP 0 rfl rfl 1 (by decide) (hts _ (mc wd27)) (fun _ h9 => h9) rfl dPool_send_42 ?_
    refine lv_iload hx hb dPool_send_45 (lv_at hl 0 rfl) ?_
    refine lv_iconst (v := nI 2) hx hb dPool_send_47 (by decide) ?_
    refine lv_iadd hx hb dPool_send_48 ?_
    refine lv_topi (nm_r (nI_add _ _) ?_)
    refine lv_iload_n hx hb dPool_send_49 rfl (lv_at hl 5 rfl) ?_
    refine ka_st (f' := sq 7 (up2 (up2 (up2 g (lst (col g 0) P 0) 0 k) (lst (col g 0) P 0) 1 s1) (lst (col g 0) P 0) 2 r1)) hx hb hK hP hD hS 1 0 rfl rfl (by omega) (by omega) (sq_up (by omega)) dPool_send_50 (fun H locs hP hD hS => ?_)
    have hP : va_P D vwCl (wPo q cI P (up2 (up2 (up2 g (lst (col g 0) P 0) 0 k) (lst (col g 0) P 0) 1 s1) (lst (col g 0) P 0) 2 r1) cn) H := hP
    have hD : va_D A (wPo q cI P (up2 (up2 (up2 g (lst (col g 0) P 0) 0 k) (lst (col g 0) P 0) 1 s1) (lst (col g 0) P 0) 2 r1) cn) := hD
    refine lv_aload_n hx hb dPool_send_51 rfl (lv_at hl 2 rfl) ?_
    refine va_get (D := D) (ci := 1) (v := .ref (q 2)) (C := RPool) (T := TPool) (N := 3) hx hb hts (fun w h => mc (uPool_in w h)) hown hK hP 0 rfl rfl 1 (by decide) (hts _ (mc wd27)) (fun _ h9 => h9) rfl dPool_send_52 ?_
    refine lv_iload hx hb dPool_send_55 (lv_at hl 0 rfl) ?_
    refine lv_iconst (v := nI 3) hx hb dPool_send_57 (by decide) ?_
    refine lv_iadd hx hb dPool_send_58 ?_
    refine lv_topi (nm_r (nI_add _ _) ?_)
    refine lv_iload hx hb dPool_send_59 (lv_at hl 6 rfl) ?_
    refine ka_st (f' := sq 7 (up2 (up2 (up2 (up2 g (lst (col g 0) P 0) 0 k) (lst (col g 0) P 0) 1 s1) (lst (col g 0) P 0) 2 r1) (lst (col g 0) P 0) 3 sl)) hx hb hK hP hD hS 1 0 rfl rfl (by omega) (by omega) (sq_up (by omega)) dPool_send_61 (fun H locs hP hD hS => ?_)
    have hP : va_P D vwCl (wPo q cI P (up2 (up2 (up2 (up2 g (lst (col g 0) P 0) 0 k) (lst (col g 0) P 0) 1 s1) (lst (col g 0) P 0) 2 r1) (lst (col g 0) P 0) 3 sl) cn) H := hP
    have hD : va_D A (wPo q cI P (up2 (up2 (up2 (up2 g (lst (col g 0) P 0) 0 k) (lst (col g 0) P 0) 1 s1) (lst (col g 0) P 0) 2 r1) (lst (col g 0) P 0) 3 sl) cn) := hD
    refine lv_aload_n hx hb dPool_send_62 rfl (lv_at hl 2 rfl) ?_
    refine va_get (D := D) (ci := 1) (v := .ref (q 2)) (C := RPool) (T := TPool) (N := 3) hx hb hts (fun w h => mc (uPool_in w h)) hown hK hP 0 rfl rfl 1 (by decide) (hts _ (mc wd27)) (fun _ h9 => h9) rfl dPool_send_63 ?_
    refine lv_iload hx hb dPool_send_66 (lv_at hl 0 rfl) ?_
    refine lv_iconst (v := nI 4) hx hb dPool_send_68 (by decide) ?_
    refine lv_iadd hx hb dPool_send_69 ?_
    refine lv_topi (nm_r (nI_add _ _) ?_)
    refine lv_iload hx hb dPool_send_70 (lv_at hl 7 rfl) ?_
    refine ka_st (f' := sq 7 (up2 (up2 (up2 (up2 (up2 g (lst (col g 0) P 0) 0 k) (lst (col g 0) P 0) 1 s1) (lst (col g 0) P 0) 2 r1) (lst (col g 0) P 0) 3 sl) (lst (col g 0) P 0) 4 b)) hx hb hK hP hD hS 1 0 rfl rfl (by omega) (by omega) (sq_up (by omega)) dPool_send_72 (fun H locs hP hD hS => ?_)
    have hP : va_P D vwCl (wPo q cI P (up2 (up2 (up2 (up2 (up2 g (lst (col g 0) P 0) 0 k) (lst (col g 0) P 0) 1 s1) (lst (col g 0) P 0) 2 r1) (lst (col g 0) P 0) 3 sl) (lst (col g 0) P 0) 4 b) cn) H := hP
    have hD : va_D A (wPo q cI P (up2 (up2 (up2 (up2 (up2 g (lst (col g 0) P 0) 0 k) (lst (col g 0) P 0) 1 s1) (lst (col g 0) P 0) 2 r1) (lst (col g 0) P 0) 3 sl) (lst (col g 0) P 0) 4 b) cn) := hD
    refine lv_aload_n hx hb dPool_send_73 rfl (lv_at hl 2 rfl) ?_
    refine va_get (D := D) (ci := 1) (v := .ref (q 2)) (C := RPool) (T := TPool) (N := 3) hx hb hts (fun w h => mc (uPool_in w h)) hown hK hP 0 rfl rfl 1 (by decide) (hts _ (mc wd27)) (fun _ h9 => h9) rfl dPool_send_74 ?_
    refine lv_iload hx hb dPool_send_77 (lv_at hl 0 rfl) ?_
    refine lv_iconst (v := nI 5) hx hb dPool_send_79 (by decide) ?_
    refine lv_iadd hx hb dPool_send_80 ?_
    refine lv_topi (nm_r (nI_add _ _) ?_)
    refine lv_iload hx hb dPool_send_81 (lv_at hl 8 rfl) ?_
    refine ka_st (f' := sq 7 (up2 (up2 (up2 (up2 (up2 (up2 g (lst (col g 0) P 0) 0 k) (lst (col g 0) P 0) 1 s1) (lst (col g 0) P 0) 2 r1) (lst (col g 0) P 0) 3 sl) (lst (col g 0) P 0) 4 b) (lst (col g 0) P 0) 5 v)) hx hb hK hP hD hS 1 0 rfl rfl (by omega) (by omega) (sq_up (by omega)) dPool_send_83 (fun H locs hP hD hS => ?_)
    have hP : va_P D vwCl (wPo q cI P (up2 (up2 (up2 (up2 (up2 (up2 g (lst (col g 0) P 0) 0 k) (lst (col g 0) P 0) 1 s1) (lst (col g 0) P 0) 2 r1) (lst (col g 0) P 0) 3 sl) (lst (col g 0) P 0) 4 b) (lst (col g 0) P 0) 5 v) cn) H := hP
    have hD : va_D A (wPo q cI P (up2 (up2 (up2 (up2 (up2 (up2 g (lst (col g 0) P 0) 0 k) (lst (col g 0) P 0) 1 s1) (lst (col g 0) P 0) 2 r1) (lst (col g 0) P 0) 3 sl) (lst (col g 0) P 0) 4 b) (lst (col g 0) P 0) 5 v) cn) := hD
    refine lv_aload_n hx hb dPool_send_84 rfl (lv_at hl 2 rfl) ?_
    refine va_get (D := D) (ci := 1) (v := .ref (q 2)) (C := RPool) (T := TPool) (N := 3) hx hb hts (fun w h => mc (uPool_in w h)) hown hK hP 0 rfl rfl 1 (by decide) (hts _ (mc wd27)) (fun _ h9 => h9) rfl dPool_send_85 ?_
    refine lv_iload hx hb dPool_send_88 (lv_at hl 0 rfl) ?_
    refine lv_bipush (v := nI 6) hx hb dPool_send_90 (by decide) ?_
    refine lv_iadd hx hb dPool_send_92 ?_
    refine lv_topi (nm_r (nI_add _ _) ?_)
    refine lv_iload hx hb dPool_send_93 (lv_at hl 9 rfl) ?_
    refine ka_st (f' := sq 7 (up2 (up2 (up2 (up2 (up2 (up2 (up2 g (lst (col g 0) P 0) 0 k) (lst (col g 0) P 0) 1 s1) (lst (col g 0) P 0) 2 r1) (lst (col g 0) P 0) 3 sl) (lst (col g 0) P 0) 4 b) (lst (col g 0) P 0) 5 v) (lst (col g 0) P 0) 6 o)) hx hb hK hP hD hS 1 0 rfl rfl (by omega) (by omega) (sq_up (by omega)) dPool_send_95 (fun H locs hP hD hS => ?_)
    have hP : va_P D vwCl (wPo q cI P (up2 (up2 (up2 (up2 (up2 (up2 (up2 g (lst (col g 0) P 0) 0 k) (lst (col g 0) P 0) 1 s1) (lst (col g 0) P 0) 2 r1) (lst (col g 0) P 0) 3 sl) (lst (col g 0) P 0) 4 b) (lst (col g 0) P 0) 5 v) (lst (col g 0) P 0) 6 o) cn) H := hP
    have hD : va_D A (wPo q cI P (up2 (up2 (up2 (up2 (up2 (up2 (up2 g (lst (col g 0) P 0) 0 k) (lst (col g 0) P 0) 1 s1) (lst (col g 0) P 0) 2 r1) (lst (col g 0) P 0) 3 sl) (lst (col g 0) P 0) 4 b) (lst (col g 0) P 0) 5 v) (lst (col g 0) P 0) 6 o) cn) := hD
    refine lv_aload_n hx hb dPool_send_96 rfl (lv_at hl 2 rfl) ?_
    refine lv_dup hx hb dPool_send_97 rfl ?_
    refine va_get (D := D) (ci := 1) (v := .int (nI cn)) (C := RPool) (T := TPool) (N := 3) hx hb hts (fun w h => mc (uPool_in w h)) hown hK hP 0 rfl rfl 2 (by decide) (hts _ (mc wd28)) (fun _ h9 => h9) rfl dPool_send_98 ?_
    refine lv_iconst (v := nI 1) hx hb dPool_send_101 (by decide) ?_
    refine lv_iadd hx hb dPool_send_102 ?_
    refine lv_topi (nm_r (nI_add _ _) ?_)
    refine va_put (D := D) (ci := 1) (v := .int (nI (cn + 1))) (ty := .int) (C := RPool) (T := TPool) (N := 3) hx hb hts (fun w h => mc (uPool_in w h)) tyPool tyPool_ok nmPool hown hK hP hD hS 0 rfl rfl 2 (by decide) (hts _ (mc wd28)) (fun _ h9 => h9) rfl (by decide +kernel) rfl rfl (Nat.le_of_ble_eq_true rfl) dPool_send_103 (fun H locs hP hD hS => ?_)
    have hP : va_P D vwCl (wPo q cI P (up2 (up2 (up2 (up2 (up2 (up2 (up2 g (lst (col g 0) P 0) 0 k) (lst (col g 0) P 0) 1 s1) (lst (col g 0) P 0) 2 r1) (lst (col g 0) P 0) 3 sl) (lst (col g 0) P 0) 4 b) (lst (col g 0) P 0) 5 v) (lst (col g 0) P 0) 6 o) (cn + 1)) H := hP
    have hD : va_D A (wPo q cI P (up2 (up2 (up2 (up2 (up2 (up2 (up2 g (lst (col g 0) P 0) 0 k) (lst (col g 0) P 0) 1 s1) (lst (col g 0) P 0) 2 r1) (lst (col g 0) P 0) 3 sl) (lst (col g 0) P 0) 4 b) (lst (col g 0) P 0) 5 v) (lst (col g 0) P 0) 6 o) (cn + 1)) := hD
    refine lv_iload hx hb dPool_send_106 (lv_at hl 1 rfl) ?_
    exact W.iret (v := nI (lst (col g 0) P 0)) hx hb hr (fun t9 ht9 hW9 => ⟨⟨nI (lst (col g 0) P 0), (wPo q cI P (up2 (up2 (up2 (up2 (up2 (up2 (up2 g (lst (col g 0) P 0) 0 k) (lst (col g 0) P 0) 1 s1) (lst (col g 0) P 0) 2 r1) (lst (col g 0) P 0) 3 sl) (lst (col g 0) P 0) 4 b) (lst (col g 0) P 0) 5 v) (lst (col g 0) P 0) 6 o) (cn + 1)), rfl, Or.inl ⟨rfl, h1, rfl⟩, by rw [ht9]; exact hP, va_K.moved hW9.alike hK, hD⟩, hS.F ht9⟩) hS.2.2 dPool_send_108
  · have hP : va_P D vwCl (wPo q cI P g cn) H := hP
    have hD : va_D A (wPo q cI P g cn) := hD
    refine lv_istore hx hb dPool_send_4 hl (by decide) rfl (fun ls hl => ?_)
    have hl : lv_has ls 10 [(8, .int (-1)), (0, .ref (q 1)), (1, .int k), (2, .int s1), (3, .int r1), (4, .int sl), (5, .int b), (6, .int v), (7, .int o)] := hl
    refine lv_iload hx hb dPool_send_6 (lv_at hl 0 rfl) ?_
    refine lv_iconst (v := (-1)) hx hb dPool_send_8 (by decide) ?_
    refine lv_icmp_ne (tgt := 14) hx hb dPool_send_9 (by decide) (fun h9 => absurd (by decide) h9) (fun _ => ?_)
    refine lv_iconst (v := (-1)) hx hb dPool_send_12 (by decide) ?_
    exact W.iret (v := (-1)) hx hb hr (fun t9 ht9 hW9 => ⟨⟨(-1), (wPo q cI P g cn), rfl, Or.inr ⟨rfl, h1, rfl⟩, by rw [ht9]; exact hP, va_K.moved hW9.alike hK, hD⟩, hS.F ht9⟩) hS.2.2 dPool_send_13
theorem dPool_sendCopy_0 : decode cPool_sendCopy 0 = .ok (.aload_n 0, 1) := by decide +kernel
theorem dPool_sendCopy_1 : decode cPool_sendCopy 1 = .ok (.aload_n 0, 1) := by decide +kernel
theorem dPool_sendCopy_2 : decode cPool_sendCopy 2 = .ok (.iload_n 1, 1) := by decide +kernel
theorem dPool_sendCopy_3 : decode cPool_sendCopy 3 = .ok (.iconst 0, 1) := by decide +kernel
theorem dPool_sendCopy_4 : decode cPool_sendCopy 4 = .ok (.invokevirtual 26, 3) := by decide +kernel
theorem dPool_sendCopy_7 : decode cPool_sendCopy 7 = .ok (.aload_n 0, 1) := by decide +kernel
theorem dPool_sendCopy_8 : decode cPool_sendCopy 8 = .ok (.iload_n 1, 1) := by decide +kernel
theorem dPool_sendCopy_9 : decode cPool_sendCopy 9 = .ok (.iconst 1, 1) := by decide +kernel
theorem dPool_sendCopy_10 : decode cPool_sendCopy 10 = .ok (.invokevirtual 26, 3) := by decide +kernel
theorem dPool_sendCopy_13 : decode cPool_sendCopy 13 = .ok (.aload_n 0, 1) := by decide +kernel
theorem dPool_sendCopy_14 : decode cPool_sendCopy 14 = .ok (.iload_n 1, 1) := by decide +kernel
theorem dPool_sendCopy_15 : decode cPool_sendCopy 15 = .ok (.iconst 2, 1) := by decide +kernel
theorem dPool_sendCopy_16 : decode cPool_sendCopy 16 = .ok (.invokevirtual 26, 3) := by decide +kernel
theorem dPool_sendCopy_19 : decode cPool_sendCopy 19 = .ok (.aload_n 0, 1) := by decide +kernel
theorem dPool_sendCopy_20 : decode cPool_sendCopy 20 = .ok (.iload_n 1, 1) := by decide +kernel
theorem dPool_sendCopy_21 : decode cPool_sendCopy 21 = .ok (.iconst 3, 1) := by decide +kernel
theorem dPool_sendCopy_22 : decode cPool_sendCopy 22 = .ok (.invokevirtual 26, 3) := by decide +kernel
theorem dPool_sendCopy_25 : decode cPool_sendCopy 25 = .ok (.aload_n 0, 1) := by decide +kernel
theorem dPool_sendCopy_26 : decode cPool_sendCopy 26 = .ok (.iload_n 1, 1) := by decide +kernel
theorem dPool_sendCopy_27 : decode cPool_sendCopy 27 = .ok (.iconst 4, 1) := by decide +kernel
theorem dPool_sendCopy_28 : decode cPool_sendCopy 28 = .ok (.invokevirtual 26, 3) := by decide +kernel
theorem dPool_sendCopy_31 : decode cPool_sendCopy 31 = .ok (.aload_n 0, 1) := by decide +kernel
theorem dPool_sendCopy_32 : decode cPool_sendCopy 32 = .ok (.iload_n 1, 1) := by decide +kernel
theorem dPool_sendCopy_33 : decode cPool_sendCopy 33 = .ok (.iconst 5, 1) := by decide +kernel
theorem dPool_sendCopy_34 : decode cPool_sendCopy 34 = .ok (.invokevirtual 26, 3) := by decide +kernel
theorem dPool_sendCopy_37 : decode cPool_sendCopy 37 = .ok (.aload_n 0, 1) := by decide +kernel
theorem dPool_sendCopy_38 : decode cPool_sendCopy 38 = .ok (.iload_n 1, 1) := by decide +kernel
theorem dPool_sendCopy_39 : decode cPool_sendCopy 39 = .ok (.bipush 6, 2) := by decide +kernel
theorem dPool_sendCopy_41 : decode cPool_sendCopy 41 = .ok (.invokevirtual 26, 3) := by decide +kernel
theorem dPool_sendCopy_44 : decode cPool_sendCopy 44 = .ok (.invokevirtual 34, 3) := by decide +kernel
theorem dPool_sendCopy_47 : decode cPool_sendCopy 47 = .ok (.ireturn, 1) := by decide +kernel
set_option maxRecDepth 100000 in
set_option maxHeartbeats 4000000 in
theorem c_sendCopy (l : Launch) (D : va_G) (cI cZ : ClassId) (q : Nat → Nat) (P : Nat) (g : Nat → Nat → Int32) (cn : Nat) (j : Nat) (hP64 : P ≤ 64) (hj : j < P) : MI l D [(cI, .int), (cZ, .boolean)] yPool_sendCopy wsPool_sendCopy ({ frames := 3, cells := 0, slots := 0, locals := 72 }) [.ref (q 1), .int (nI j)] (wPo q cI P g cn) (fun r w => (r = nI (lst (col g 0) P 0) ∧ (lst (col g 0) P 0 < P) ∧ w = (wPo q cI P (up7 g (lst (col g 0) P 0) (g j 0) (g j 1) (g j 2) (g j 3) (g j 4) (g j 5) (g j 6)) (cn + 1))) ∨ (r = -1 ∧ (lst (col g 0) P 0 = P) ∧ w = (wPo q cI P g cn))) := by
  intro sz
  refine Met.ofW (cc := cPool_sendCopy) (maxL := 2) (ret := (Option.some .int)) (by decide) rfl ?_
  intro p e s m args below meth c s₁ B hml hv
  obtain ⟨rfl, hsz, hP, hK, hD0, hZ⟩ := hv
  have hx := B.exec
  have hb := B.bytes
  have hr := B.returns
  have hts := atoms_spec (ws := wsPool_sendCopy) B.pre
  have hown : s.vm.findClass RPool = some m.cls := findClass_of_methodNamed B.named
  have hlocks := B.notSynchronized
  subst hsz
  have hD := hD0.self (sz := s.heap.size)
  generalize hAe : va_A (wPo q cI P g cn) s.heap.size = A at hD ⊢
  have hA : ∀ q : Nat, s.heap.size ≤ q → A q := fun q h => by rw [← hAe]; exact Or.inr h
  have hS : va_S A s.heap s.heap [] := va_S.rf
  have hP : va_P D vwCl (wPo q cI P g cn) s.heap := hP
  have hl := lv_entry ([.ref (q 1), .int (nI j)]) (n := 2) (Nat.le_of_ble_eq_true rfl)
  rw [lg_entry_eq]
  generalize (lg_sl ([.ref (q 1), .int (nI j)]) ++ List.replicate (2 - (lg_sl ([.ref (q 1), .int (nI j)])).length) Slot.unset).toArray = ls at hl ⊢
  have hl : lv_has ls 2 [(0, .ref (q 1)), (1, .int (nI j))] := hl
  refine lv_aload_n hx hb dPool_sendCopy_0 rfl (lv_at hl 0 rfl) ?_
  refine lv_aload_n hx hb dPool_sendCopy_1 rfl (lv_at hl 0 rfl) ?_
  refine lv_iload_n hx hb dPool_sendCopy_2 rfl (lv_at hl 1 rfl) ?_
  refine lv_iconst (v := nI 0) hx hb dPool_sendCopy_3 (by decide) ?_
  have hPc := hP.sub (ws' := (wPo q cI P g cn)) [0, 1] rfl
  have hDc := hD.sub (ws' := (wPo q cI P g cn)) [0, 1] (by decide) rfl
  refine kx_i (va_runV (As := [.int (nI j), .int (nI 0)]) (rest := [.ref (q 1)]) ⟨hx, hb, hml, hown, hts⟩ ((c_field l D cI cZ q P g cn j 0 (hP64) (hj) (by omega)) s.heap.size) (cwV 2 hts (gV wd181 wd182 wd183 wd2 wd184) rfl rfl rfl (by decide +kernel) ⟨Nat.le_of_ble_eq_true rfl, Nat.le_of_ble_eq_true rfl⟩) ⟨fb_PW, va_recv (q0 := 0) (ci := 1) hK hPc rfl rfl, pre_PW hK hPc hDc hZ⟩ rfl rfl hl.1 rfl (lv_room (Nat.le_of_ble_eq_true rfl)) dPool_sendCopy_4 ⟨Nat.zero_le _, Nat.zero_le _⟩) hP hD hS hA [0, 1] [] rfl rfl (by decide) (by decide) (fun r w1 H locs hw hP hD hS => ?_)
  obtain ⟨rfl, rfl⟩ := hw
  have hP : va_P D vwCl (wPo q cI P g cn) H := hP
  have hD : va_D A (wPo q cI P g cn) := hD
  refine lv_aload_n hx hb dPool_sendCopy_7 rfl (lv_at hl 0 rfl) ?_
  refine lv_iload_n hx hb dPool_sendCopy_8 rfl (lv_at hl 1 rfl) ?_
  refine lv_iconst (v := nI 1) hx hb dPool_sendCopy_9 (by decide) ?_
  have hPc := hP.sub (ws' := (wPo q cI P g cn)) [0, 1] rfl
  have hDc := hD.sub (ws' := (wPo q cI P g cn)) [0, 1] (by decide) rfl
  refine kx_i (va_runV (As := [.int (nI j), .int (nI 1)]) (rest := [.int (g j 0), .ref (q 1)]) ⟨hx, hb, hml, hown, hts⟩ ((c_field l D cI cZ q P g cn j 1 (hP64) (hj) (by omega)) H.size) (cwV 2 hts (gV wd181 wd182 wd183 wd2 wd184) rfl rfl rfl (by decide +kernel) ⟨Nat.le_of_ble_eq_true rfl, Nat.le_of_ble_eq_true rfl⟩) ⟨fb_PW, va_recv (q0 := 0) (ci := 1) hK hPc rfl rfl, pre_PW hK hPc hDc hZ⟩ rfl rfl hl.1 rfl (lv_room (Nat.le_of_ble_eq_true rfl)) dPool_sendCopy_10 ⟨Nat.zero_le _, Nat.zero_le _⟩) hP hD hS hA [0, 1] [] rfl rfl (by decide) (by decide) (fun r w1 H locs hw hP hD hS => ?_)
  obtain ⟨rfl, rfl⟩ := hw
  have hP : va_P D vwCl (wPo q cI P g cn) H := hP
  have hD : va_D A (wPo q cI P g cn) := hD
  refine lv_aload_n hx hb dPool_sendCopy_13 rfl (lv_at hl 0 rfl) ?_
  refine lv_iload_n hx hb dPool_sendCopy_14 rfl (lv_at hl 1 rfl) ?_
  refine lv_iconst (v := nI 2) hx hb dPool_sendCopy_15 (by decide) ?_
  have hPc := hP.sub (ws' := (wPo q cI P g cn)) [0, 1] rfl
  have hDc := hD.sub (ws' := (wPo q cI P g cn)) [0, 1] (by decide) rfl
  refine kx_i (va_runV (As := [.int (nI j), .int (nI 2)]) (rest := [.int (g j 1), .int (g j 0), .ref (q 1)]) ⟨hx, hb, hml, hown, hts⟩ ((c_field l D cI cZ q P g cn j 2 (hP64) (hj) (by omega)) H.size) (cwV 2 hts (gV wd181 wd182 wd183 wd2 wd184) rfl rfl rfl (by decide +kernel) ⟨Nat.le_of_ble_eq_true rfl, Nat.le_of_ble_eq_true rfl⟩) ⟨fb_PW, va_recv (q0 := 0) (ci := 1) hK hPc rfl rfl, pre_PW hK hPc hDc hZ⟩ rfl rfl hl.1 rfl (lv_room (Nat.le_of_ble_eq_true rfl)) dPool_sendCopy_16 ⟨Nat.zero_le _, Nat.zero_le _⟩) hP hD hS hA [0, 1] [] rfl rfl (by decide) (by decide) (fun r w1 H locs hw hP hD hS => ?_)
  obtain ⟨rfl, rfl⟩ := hw
  have hP : va_P D vwCl (wPo q cI P g cn) H := hP
  have hD : va_D A (wPo q cI P g cn) := hD
  refine lv_aload_n hx hb dPool_sendCopy_19 rfl (lv_at hl 0 rfl) ?_
  refine lv_iload_n hx hb dPool_sendCopy_20 rfl (lv_at hl 1 rfl) ?_
  refine lv_iconst (v := nI 3) hx hb dPool_sendCopy_21 (by decide) ?_
  have hPc := hP.sub (ws' := (wPo q cI P g cn)) [0, 1] rfl
  have hDc := hD.sub (ws' := (wPo q cI P g cn)) [0, 1] (by decide) rfl
  refine kx_i (va_runV (As := [.int (nI j), .int (nI 3)]) (rest := [.int (g j 2), .int (g j 1), .int (g j 0), .ref (q 1)]) ⟨hx, hb, hml, hown, hts⟩ ((c_field l D cI cZ q P g cn j 3 (hP64) (hj) (by omega)) H.size) (cwV 2 hts (gV wd181 wd182 wd183 wd2 wd184) rfl rfl rfl (by decide +kernel) ⟨Nat.le_of_ble_eq_true rfl, Nat.le_of_ble_eq_true rfl⟩) ⟨fb_PW, va_recv (q0 := 0) (ci := 1) hK hPc rfl rfl, pre_PW hK hPc hDc hZ⟩ rfl rfl hl.1 rfl (lv_room (Nat.le_of_ble_eq_true rfl)) dPool_sendCopy_22 ⟨Nat.zero_le _, Nat.zero_le _⟩) hP hD hS hA [0, 1] [] rfl rfl (by decide) (by decide) (fun r w1 H locs hw hP hD hS => ?_)
  obtain ⟨rfl, rfl⟩ := hw
  have hP : va_P D vwCl (wPo q cI P g cn) H := hP
  have hD : va_D A (wPo q cI P g cn) := hD
  refine lv_aload_n hx hb dPool_sendCopy_25 rfl (lv_at hl 0 rfl) ?_
  refine lv_iload_n hx hb dPool_sendCopy_26 rfl (lv_at hl 1 rfl) ?_
  refine lv_iconst (v := nI 4) hx hb dPool_sendCopy_27 (by decide) ?_
  have hPc := hP.sub (ws' := (wPo q cI P g cn)) [0, 1] rfl
  have hDc := hD.sub (ws' := (wPo q cI P g cn)) [0, 1] (by decide) rfl
  refine kx_i (va_runV (As := [.int (nI j), .int (nI 4)]) (rest := [.int (g j 3), .int (g j 2), .int (g j 1), .int (g j 0), .ref (q 1)]) ⟨hx, hb, hml, hown, hts⟩ ((c_field l D cI cZ q P g cn j 4 (hP64) (hj) (by omega)) H.size) (cwV 2 hts (gV wd181 wd182 wd183 wd2 wd184) rfl rfl rfl (by decide +kernel) ⟨Nat.le_of_ble_eq_true rfl, Nat.le_of_ble_eq_true rfl⟩) ⟨fb_PW, va_recv (q0 := 0) (ci := 1) hK hPc rfl rfl, pre_PW hK hPc hDc hZ⟩ rfl rfl hl.1 rfl (lv_room (Nat.le_of_ble_eq_true rfl)) dPool_sendCopy_28 ⟨Nat.zero_le _, Nat.zero_le _⟩) hP hD hS hA [0, 1] [] rfl rfl (by decide) (by decide) (fun r w1 H locs hw hP hD hS => ?_)
  obtain ⟨rfl, rfl⟩ := hw
  have hP : va_P D vwCl (wPo q cI P g cn) H := hP
  have hD : va_D A (wPo q cI P g cn) := hD
  refine lv_aload_n hx hb dPool_sendCopy_31 rfl (lv_at hl 0 rfl) ?_
  refine lv_iload_n hx hb dPool_sendCopy_32 rfl (lv_at hl 1 rfl) ?_
  refine lv_iconst (v := nI 5) hx hb dPool_sendCopy_33 (by decide) ?_
  have hPc := hP.sub (ws' := (wPo q cI P g cn)) [0, 1] rfl
  have hDc := hD.sub (ws' := (wPo q cI P g cn)) [0, 1] (by decide) rfl
  refine kx_i (va_runV (As := [.int (nI j), .int (nI 5)]) (rest := [.int (g j 4), .int (g j 3), .int (g j 2), .int (g j 1), .int (g j 0), .ref (q 1)]) ⟨hx, hb, hml, hown, hts⟩ ((c_field l D cI cZ q P g cn j 5 (hP64) (hj) (by omega)) H.size) (cwV 2 hts (gV wd181 wd182 wd183 wd2 wd184) rfl rfl rfl (by decide +kernel) ⟨Nat.le_of_ble_eq_true rfl, Nat.le_of_ble_eq_true rfl⟩) ⟨fb_PW, va_recv (q0 := 0) (ci := 1) hK hPc rfl rfl, pre_PW hK hPc hDc hZ⟩ rfl rfl hl.1 rfl (lv_room (Nat.le_of_ble_eq_true rfl)) dPool_sendCopy_34 ⟨Nat.zero_le _, Nat.zero_le _⟩) hP hD hS hA [0, 1] [] rfl rfl (by decide) (by decide) (fun r w1 H locs hw hP hD hS => ?_)
  obtain ⟨rfl, rfl⟩ := hw
  have hP : va_P D vwCl (wPo q cI P g cn) H := hP
  have hD : va_D A (wPo q cI P g cn) := hD
  refine lv_aload_n hx hb dPool_sendCopy_37 rfl (lv_at hl 0 rfl) ?_
  refine lv_iload_n hx hb dPool_sendCopy_38 rfl (lv_at hl 1 rfl) ?_
  refine lv_bipush (v := nI 6) hx hb dPool_sendCopy_39 (by decide) ?_
  have hPc := hP.sub (ws' := (wPo q cI P g cn)) [0, 1] rfl
  have hDc := hD.sub (ws' := (wPo q cI P g cn)) [0, 1] (by decide) rfl
  refine kx_i (va_runV (As := [.int (nI j), .int (nI 6)]) (rest := [.int (g j 5), .int (g j 4), .int (g j 3), .int (g j 2), .int (g j 1), .int (g j 0), .ref (q 1)]) ⟨hx, hb, hml, hown, hts⟩ ((c_field l D cI cZ q P g cn j 6 (hP64) (hj) (by omega)) H.size) (cwV 2 hts (gV wd181 wd182 wd183 wd2 wd184) rfl rfl rfl (by decide +kernel) ⟨Nat.le_of_ble_eq_true rfl, Nat.le_of_ble_eq_true rfl⟩) ⟨fb_PW, va_recv (q0 := 0) (ci := 1) hK hPc rfl rfl, pre_PW hK hPc hDc hZ⟩ rfl rfl hl.1 rfl (lv_room (Nat.le_of_ble_eq_true rfl)) dPool_sendCopy_41 ⟨Nat.zero_le _, Nat.zero_le _⟩) hP hD hS hA [0, 1] [] rfl rfl (by decide) (by decide) (fun r w1 H locs hw hP hD hS => ?_)
  obtain ⟨rfl, rfl⟩ := hw
  have hP : va_P D vwCl (wPo q cI P g cn) H := hP
  have hD : va_D A (wPo q cI P g cn) := hD
  have hPc := hP.sub (ws' := (wPo q cI P g cn)) [0, 1] rfl
  have hDc := hD.sub (ws' := (wPo q cI P g cn)) [0, 1] (by decide) rfl
  refine kx_i (va_runV (As := [.int (g j 0), .int (g j 1), .int (g j 2), .int (g j 3), .int (g j 4), .int (g j 5), .int (g j 6)]) (rest := []) ⟨hx, hb, hml, hown, hts⟩ ((c_send l D cI cZ q P g cn (g j 0) (g j 1) (g j 2) (g j 3) (g j 4) (g j 5) (g j 6) (hP64)) H.size) (cwV 7 hts (gV wd303 wd174 wd175 wd2 wd176) rfl rfl rfl (by decide +kernel) ⟨Nat.le_of_ble_eq_true rfl, Nat.le_of_ble_eq_true rfl⟩) ⟨fb_PW, va_recv (q0 := 0) (ci := 1) hK hPc rfl rfl, pre_PW hK hPc hDc hZ⟩ rfl rfl hl.1 rfl (lv_room (Nat.le_of_ble_eq_true rfl)) dPool_sendCopy_44 ⟨Nat.zero_le _, Nat.zero_le _⟩) hP hD hS hA [0, 1] [] rfl rfl (by decide) (by decide) (fun r w1 H locs hw hP hD hS => ?_)
  rcases hw with ⟨rfl, h44, rfl⟩ | ⟨rfl, h44, rfl⟩
  · have hP : va_P D vwCl (wPo q cI P (up7 g (lst (col g 0) P 0) (g j 0) (g j 1) (g j 2) (g j 3) (g j 4) (g j 5) (g j 6)) (cn + 1)) H := hP
    have hD : va_D A (wPo q cI P (up7 g (lst (col g 0) P 0) (g j 0) (g j 1) (g j 2) (g j 3) (g j 4) (g j 5) (g j 6)) (cn + 1)) := hD
    exact W.iret (v := nI (lst (col g 0) P 0)) hx hb hr (fun t9 ht9 hW9 => ⟨⟨nI (lst (col g 0) P 0), (wPo q cI P (up7 g (lst (col g 0) P 0) (g j 0) (g j 1) (g j 2) (g j 3) (g j 4) (g j 5) (g j 6)) (cn + 1)), rfl, Or.inl ⟨rfl, h44, rfl⟩, by rw [ht9]; exact hP, va_K.moved hW9.alike hK, hD⟩, hS.F ht9⟩) hS.2.2 dPool_sendCopy_47
  · have hP : va_P D vwCl (wPo q cI P g cn) H := hP
    have hD : va_D A (wPo q cI P g cn) := hD
    exact W.iret (v := (-1)) hx hb hr (fun t9 ht9 hW9 => ⟨⟨(-1), (wPo q cI P g cn), rfl, Or.inr ⟨rfl, h44, rfl⟩, by rw [ht9]; exact hP, va_K.moved hW9.alike hK, hD⟩, hS.F ht9⟩) hS.2.2 dPool_sendCopy_47
theorem dProposers_phase_0 : decode cProposers_phase 0 = .ok (.aload_n 0, 1) := by decide +kernel
theorem dProposers_phase_1 : decode cProposers_phase 1 = .ok (.getfield 15, 3) := by decide +kernel
theorem dProposers_phase_4 : decode cProposers_phase 4 = .ok (.iload_n 1, 1) := by decide +kernel
theorem dProposers_phase_5 : decode cProposers_phase 5 = .ok (.iaload, 1) := by decide +kernel
theorem dProposers_phase_6 : decode cProposers_phase 6 = .ok (.ireturn, 1) := by decide +kernel
set_option maxRecDepth 100000 in
set_option maxHeartbeats 4000000 in
theorem c_pr_phase (l : Launch) (D : va_G) (cI cZ : ClassId) (q : Nat → Nat) (n : Nat) (L : Nat) (f1 : Nat → Int32) (f2 : Nat → Int32) (f3 : Nat → Int32) (f4 : Nat → Int32) (f5 : Nat → Int32) (k : Nat) (hL20 : L ≤ 20) (hkL : k < L) : MI l D [(cI, .int), (cZ, .boolean)] yProposers_phase wsProposers_phase ({ frames := 0, cells := 0, slots := 0, locals := 0 }) [.ref (q 3), .int (nI k)] (wPr q cI n L f1 f2 f3 f4 f5) (fun r w => r = f1 k ∧ w = (wPr q cI n L f1 f2 f3 f4 f5)) := by
  intro sz
  refine Met.ofW (cc := cProposers_phase) (maxL := 2) (ret := (Option.some .int)) (by decide) rfl ?_
  intro p e s m args below meth c s₁ B hml hv
  obtain ⟨rfl, hsz, hP, hK, hD0, hZ⟩ := hv
  have hx := B.exec
  have hb := B.bytes
  have hr := B.returns
  have hts := atoms_spec (ws := wsProposers_phase) B.pre
  have hown : s.vm.findClass RProposers = some m.cls := findClass_of_methodNamed B.named
  have hlocks := B.notSynchronized
  subst hsz
  have hD := hD0.self (sz := s.heap.size)
  generalize hAe : va_A (wPr q cI n L f1 f2 f3 f4 f5) s.heap.size = A at hD ⊢
  have hA : ∀ q : Nat, s.heap.size ≤ q → A q := fun q h => by rw [← hAe]; exact Or.inr h
  have hS : va_S A s.heap s.heap [] := va_S.rf
  have hP : va_P D vwCl (wPr q cI n L f1 f2 f3 f4 f5) s.heap := hP
  have hl := lv_entry ([.ref (q 3), .int (nI k)]) (n := 2) (Nat.le_of_ble_eq_true rfl)
  rw [lg_entry_eq]
  generalize (lg_sl ([.ref (q 3), .int (nI k)]) ++ List.replicate (2 - (lg_sl ([.ref (q 3), .int (nI k)])).length) Slot.unset).toArray = ls at hl ⊢
  have hl : lv_has ls 2 [(0, .ref (q 3)), (1, .int (nI k))] := hl
  refine lv_aload_n hx hb dProposers_phase_0 rfl (lv_at hl 0 rfl) ?_
  refine va_get (D := D) (ci := 2) (v := .ref (q 4)) (C := RProposers) (T := TProposers) (N := 6) hx hb hts (fun w h => mc (uProposers_in w h)) hown hK hP 0 rfl rfl 1 (by decide) (hts _ (mc wd47)) (fun _ h9 => h9) rfl dProposers_phase_1 ?_
  refine lv_iload_n hx hb dProposers_phase_4 rfl (lv_at hl 1 rfl) ?_
  refine ka_ld (v := f1 k) hx hb hK hP 1 0 rfl rfl (by omega) (by omega) rfl dProposers_phase_5 ?_
  exact W.iret (v := f1 k) hx hb hr (fun t9 ht9 hW9 => ⟨⟨f1 k, (wPr q cI n L f1 f2 f3 f4 f5), rfl, ⟨rfl, rfl⟩, by rw [ht9]; exact hP, va_K.moved hW9.alike hK, hD⟩, hS.F ht9⟩) hS.2.2 dProposers_phase_6
theorem dProposers_lastBallot_0 : decode cProposers_lastBallot 0 = .ok (.aload_n 0, 1) := by decide +kernel
theorem dProposers_lastBallot_1 : decode cProposers_lastBallot 1 = .ok (.getfield 19, 3) := by decide +kernel
theorem dProposers_lastBallot_4 : decode cProposers_lastBallot 4 = .ok (.iload_n 1, 1) := by decide +kernel
theorem dProposers_lastBallot_5 : decode cProposers_lastBallot 5 = .ok (.iaload, 1) := by decide +kernel
theorem dProposers_lastBallot_6 : decode cProposers_lastBallot 6 = .ok (.ireturn, 1) := by decide +kernel
set_option maxRecDepth 100000 in
set_option maxHeartbeats 4000000 in
theorem c_pr_lastBallot (l : Launch) (D : va_G) (cI cZ : ClassId) (q : Nat → Nat) (n : Nat) (L : Nat) (f1 : Nat → Int32) (f2 : Nat → Int32) (f3 : Nat → Int32) (f4 : Nat → Int32) (f5 : Nat → Int32) (k : Nat) (hL20 : L ≤ 20) (hkL : k < L) : MI l D [(cI, .int), (cZ, .boolean)] yProposers_lastBallot wsProposers_lastBallot ({ frames := 0, cells := 0, slots := 0, locals := 0 }) [.ref (q 3), .int (nI k)] (wPr q cI n L f1 f2 f3 f4 f5) (fun r w => r = f2 k ∧ w = (wPr q cI n L f1 f2 f3 f4 f5)) := by
  intro sz
  refine Met.ofW (cc := cProposers_lastBallot) (maxL := 2) (ret := (Option.some .int)) (by decide) rfl ?_
  intro p e s m args below meth c s₁ B hml hv
  obtain ⟨rfl, hsz, hP, hK, hD0, hZ⟩ := hv
  have hx := B.exec
  have hb := B.bytes
  have hr := B.returns
  have hts := atoms_spec (ws := wsProposers_lastBallot) B.pre
  have hown : s.vm.findClass RProposers = some m.cls := findClass_of_methodNamed B.named
  have hlocks := B.notSynchronized
  subst hsz
  have hD := hD0.self (sz := s.heap.size)
  generalize hAe : va_A (wPr q cI n L f1 f2 f3 f4 f5) s.heap.size = A at hD ⊢
  have hA : ∀ q : Nat, s.heap.size ≤ q → A q := fun q h => by rw [← hAe]; exact Or.inr h
  have hS : va_S A s.heap s.heap [] := va_S.rf
  have hP : va_P D vwCl (wPr q cI n L f1 f2 f3 f4 f5) s.heap := hP
  have hl := lv_entry ([.ref (q 3), .int (nI k)]) (n := 2) (Nat.le_of_ble_eq_true rfl)
  rw [lg_entry_eq]
  generalize (lg_sl ([.ref (q 3), .int (nI k)]) ++ List.replicate (2 - (lg_sl ([.ref (q 3), .int (nI k)])).length) Slot.unset).toArray = ls at hl ⊢
  have hl : lv_has ls 2 [(0, .ref (q 3)), (1, .int (nI k))] := hl
  refine lv_aload_n hx hb dProposers_lastBallot_0 rfl (lv_at hl 0 rfl) ?_
  refine va_get (D := D) (ci := 2) (v := .ref (q 5)) (C := RProposers) (T := TProposers) (N := 6) hx hb hts (fun w h => mc (uProposers_in w h)) hown hK hP 0 rfl rfl 2 (by decide) (hts _ (mc wd48)) (fun _ h9 => h9) rfl dProposers_lastBallot_1 ?_
  refine lv_iload_n hx hb dProposers_lastBallot_4 rfl (lv_at hl 1 rfl) ?_
  refine ka_ld (v := f2 k) hx hb hK hP 2 0 rfl rfl (by omega) (by omega) rfl dProposers_lastBallot_5 ?_
  exact W.iret (v := f2 k) hx hb hr (fun t9 ht9 hW9 => ⟨⟨f2 k, (wPr q cI n L f1 f2 f3 f4 f5), rfl, ⟨rfl, rfl⟩, by rw [ht9]; exact hP, va_K.moved hW9.alike hK, hD⟩, hS.F ht9⟩) hS.2.2 dProposers_lastBallot_6
theorem dProposers_bestBallot_0 : decode cProposers_bestBallot 0 = .ok (.aload_n 0, 1) := by decide +kernel
theorem dProposers_bestBallot_1 : decode cProposers_bestBallot 1 = .ok (.getfield 25, 3) := by decide +kernel
theorem dProposers_bestBallot_4 : decode cProposers_bestBallot 4 = .ok (.iload_n 1, 1) := by decide +kernel
theorem dProposers_bestBallot_5 : decode cProposers_bestBallot 5 = .ok (.iaload, 1) := by decide +kernel
theorem dProposers_bestBallot_6 : decode cProposers_bestBallot 6 = .ok (.ireturn, 1) := by decide +kernel
set_option maxRecDepth 100000 in
set_option maxHeartbeats 4000000 in
theorem c_pr_bestBallot (l : Launch) (D : va_G) (cI cZ : ClassId) (q : Nat → Nat) (n : Nat) (L : Nat) (f1 : Nat → Int32) (f2 : Nat → Int32) (f3 : Nat → Int32) (f4 : Nat → Int32) (f5 : Nat → Int32) (k : Nat) (hL20 : L ≤ 20) (hkL : k < L) : MI l D [(cI, .int), (cZ, .boolean)] yProposers_bestBallot wsProposers_bestBallot ({ frames := 0, cells := 0, slots := 0, locals := 0 }) [.ref (q 3), .int (nI k)] (wPr q cI n L f1 f2 f3 f4 f5) (fun r w => r = f4 k ∧ w = (wPr q cI n L f1 f2 f3 f4 f5)) := by
  intro sz
  refine Met.ofW (cc := cProposers_bestBallot) (maxL := 2) (ret := (Option.some .int)) (by decide) rfl ?_
  intro p e s m args below meth c s₁ B hml hv
  obtain ⟨rfl, hsz, hP, hK, hD0, hZ⟩ := hv
  have hx := B.exec
  have hb := B.bytes
  have hr := B.returns
  have hts := atoms_spec (ws := wsProposers_bestBallot) B.pre
  have hown : s.vm.findClass RProposers = some m.cls := findClass_of_methodNamed B.named
  have hlocks := B.notSynchronized
  subst hsz
  have hD := hD0.self (sz := s.heap.size)
  generalize hAe : va_A (wPr q cI n L f1 f2 f3 f4 f5) s.heap.size = A at hD ⊢
  have hA : ∀ q : Nat, s.heap.size ≤ q → A q := fun q h => by rw [← hAe]; exact Or.inr h
  have hS : va_S A s.heap s.heap [] := va_S.rf
  have hP : va_P D vwCl (wPr q cI n L f1 f2 f3 f4 f5) s.heap := hP
  have hl := lv_entry ([.ref (q 3), .int (nI k)]) (n := 2) (Nat.le_of_ble_eq_true rfl)
  rw [lg_entry_eq]
  generalize (lg_sl ([.ref (q 3), .int (nI k)]) ++ List.replicate (2 - (lg_sl ([.ref (q 3), .int (nI k)])).length) Slot.unset).toArray = ls at hl ⊢
  have hl : lv_has ls 2 [(0, .ref (q 3)), (1, .int (nI k))] := hl
  refine lv_aload_n hx hb dProposers_bestBallot_0 rfl (lv_at hl 0 rfl) ?_
  refine va_get (D := D) (ci := 2) (v := .ref (q 7)) (C := RProposers) (T := TProposers) (N := 6) hx hb hts (fun w h => mc (uProposers_in w h)) hown hK hP 0 rfl rfl 4 (by decide) (hts _ (mc wd50)) (fun _ h9 => h9) rfl dProposers_bestBallot_1 ?_
  refine lv_iload_n hx hb dProposers_bestBallot_4 rfl (lv_at hl 1 rfl) ?_
  refine ka_ld (v := f4 k) hx hb hK hP 4 0 rfl rfl (by omega) (by omega) rfl dProposers_bestBallot_5 ?_
  exact W.iret (v := f4 k) hx hb hr (fun t9 ht9 hW9 => ⟨⟨f4 k, (wPr q cI n L f1 f2 f3 f4 f5), rfl, ⟨rfl, rfl⟩, by rw [ht9]; exact hP, va_K.moved hW9.alike hK, hD⟩, hS.F ht9⟩) hS.2.2 dProposers_bestBallot_6
theorem dProposers_value_0 : decode cProposers_value 0 = .ok (.aload_n 0, 1) := by decide +kernel
theorem dProposers_value_1 : decode cProposers_value 1 = .ok (.getfield 28, 3) := by decide +kernel
theorem dProposers_value_4 : decode cProposers_value 4 = .ok (.iload_n 1, 1) := by decide +kernel
theorem dProposers_value_5 : decode cProposers_value 5 = .ok (.iaload, 1) := by decide +kernel
theorem dProposers_value_6 : decode cProposers_value 6 = .ok (.ireturn, 1) := by decide +kernel
set_option maxRecDepth 100000 in
set_option maxHeartbeats 4000000 in
theorem c_pr_value (l : Launch) (D : va_G) (cI cZ : ClassId) (q : Nat → Nat) (n : Nat) (L : Nat) (f1 : Nat → Int32) (f2 : Nat → Int32) (f3 : Nat → Int32) (f4 : Nat → Int32) (f5 : Nat → Int32) (k : Nat) (hL20 : L ≤ 20) (hkL : k < L) : MI l D [(cI, .int), (cZ, .boolean)] yProposers_value wsProposers_value ({ frames := 0, cells := 0, slots := 0, locals := 0 }) [.ref (q 3), .int (nI k)] (wPr q cI n L f1 f2 f3 f4 f5) (fun r w => r = f5 k ∧ w = (wPr q cI n L f1 f2 f3 f4 f5)) := by
  intro sz
  refine Met.ofW (cc := cProposers_value) (maxL := 2) (ret := (Option.some .int)) (by decide) rfl ?_
  intro p e s m args below meth c s₁ B hml hv
  obtain ⟨rfl, hsz, hP, hK, hD0, hZ⟩ := hv
  have hx := B.exec
  have hb := B.bytes
  have hr := B.returns
  have hts := atoms_spec (ws := wsProposers_value) B.pre
  have hown : s.vm.findClass RProposers = some m.cls := findClass_of_methodNamed B.named
  have hlocks := B.notSynchronized
  subst hsz
  have hD := hD0.self (sz := s.heap.size)
  generalize hAe : va_A (wPr q cI n L f1 f2 f3 f4 f5) s.heap.size = A at hD ⊢
  have hA : ∀ q : Nat, s.heap.size ≤ q → A q := fun q h => by rw [← hAe]; exact Or.inr h
  have hS : va_S A s.heap s.heap [] := va_S.rf
  have hP : va_P D vwCl (wPr q cI n L f1 f2 f3 f4 f5) s.heap := hP
  have hl := lv_entry ([.ref (q 3), .int (nI k)]) (n := 2) (Nat.le_of_ble_eq_true rfl)
  rw [lg_entry_eq]
  generalize (lg_sl ([.ref (q 3), .int (nI k)]) ++ List.replicate (2 - (lg_sl ([.ref (q 3), .int (nI k)])).length) Slot.unset).toArray = ls at hl ⊢
  have hl : lv_has ls 2 [(0, .ref (q 3)), (1, .int (nI k))] := hl
  refine lv_aload_n hx hb dProposers_value_0 rfl (lv_at hl 0 rfl) ?_
  refine va_get (D := D) (ci := 2) (v := .ref (q 8)) (C := RProposers) (T := TProposers) (N := 6) hx hb hts (fun w h => mc (uProposers_in w h)) hown hK hP 0 rfl rfl 5 (by decide) (hts _ (mc wd51)) (fun _ h9 => h9) rfl dProposers_value_1 ?_
  refine lv_iload_n hx hb dProposers_value_4 rfl (lv_at hl 1 rfl) ?_
  refine ka_ld (v := f5 k) hx hb hK hP 5 0 rfl rfl (by omega) (by omega) rfl dProposers_value_5 ?_
  exact W.iret (v := f5 k) hx hb hr (fun t9 ht9 hW9 => ⟨⟨f5 k, (wPr q cI n L f1 f2 f3 f4 f5), rfl, ⟨rfl, rfl⟩, by rw [ht9]; exact hP, va_K.moved hW9.alike hK, hD⟩, hS.F ht9⟩) hS.2.2 dProposers_value_6
theorem dProposers_begin_0 : decode cProposers_begin 0 = .ok (.aload_n 0, 1) := by decide +kernel
theorem dProposers_begin_1 : decode cProposers_begin 1 = .ok (.getfield 15, 3) := by decide +kernel
theorem dProposers_begin_4 : decode cProposers_begin 4 = .ok (.iload_n 1, 1) := by decide +kernel
theorem dProposers_begin_5 : decode cProposers_begin 5 = .ok (.iconst 1, 1) := by decide +kernel
theorem dProposers_begin_6 : decode cProposers_begin 6 = .ok (.iastore, 1) := by decide +kernel
theorem dProposers_begin_7 : decode cProposers_begin 7 = .ok (.aload_n 0, 1) := by decide +kernel
theorem dProposers_begin_8 : decode cProposers_begin 8 = .ok (.getfield 19, 3) := by decide +kernel
theorem dProposers_begin_11 : decode cProposers_begin 11 = .ok (.iload_n 1, 1) := by decide +kernel
theorem dProposers_begin_12 : decode cProposers_begin 12 = .ok (.iload_n 2, 1) := by decide +kernel
theorem dProposers_begin_13 : decode cProposers_begin 13 = .ok (.iastore, 1) := by decide +kernel
theorem dProposers_begin_14 : decode cProposers_begin 14 = .ok (.aload_n 0, 1) := by decide +kernel
theorem dProposers_begin_15 : decode cProposers_begin 15 = .ok (.getfield 22, 3) := by decide +kernel
theorem dProposers_begin_18 : decode cProposers_begin 18 = .ok (.iload_n 1, 1) := by decide +kernel
theorem dProposers_begin_19 : decode cProposers_begin 19 = .ok (.iconst 0, 1) := by decide +kernel
theorem dProposers_begin_20 : decode cProposers_begin 20 = .ok (.iastore, 1) := by decide +kernel
theorem dProposers_begin_21 : decode cProposers_begin 21 = .ok (.aload_n 0, 1) := by decide +kernel
theorem dProposers_begin_22 : decode cProposers_begin 22 = .ok (.getfield 25, 3) := by decide +kernel
theorem dProposers_begin_25 : decode cProposers_begin 25 = .ok (.iload_n 1, 1) := by decide +kernel
theorem dProposers_begin_26 : decode cProposers_begin 26 = .ok (.iconst (-1), 1) := by decide +kernel
theorem dProposers_begin_27 : decode cProposers_begin 27 = .ok (.iastore, 1) := by decide +kernel
theorem dProposers_begin_28 : decode cProposers_begin 28 = .ok (.aload_n 0, 1) := by decide +kernel
theorem dProposers_begin_29 : decode cProposers_begin 29 = .ok (.getfield 28, 3) := by decide +kernel
theorem dProposers_begin_32 : decode cProposers_begin 32 = .ok (.iload_n 1, 1) := by decide +kernel
theorem dProposers_begin_33 : decode cProposers_begin 33 = .ok (.iload_n 3, 1) := by decide +kernel
theorem dProposers_begin_34 : decode cProposers_begin 34 = .ok (.iastore, 1) := by decide +kernel
theorem dProposers_begin_35 : decode cProposers_begin 35 = .ok (.return_, 1) := by decide +kernel
set_option maxRecDepth 100000 in
set_option maxHeartbeats 4000000 in
theorem c_begin (l : Launch) (D : va_G) (cI cZ : ClassId) (q : Nat → Nat) (n : Nat) (L : Nat) (f1 : Nat → Int32) (f2 : Nat → Int32) (f3 : Nat → Int32) (f4 : Nat → Int32) (f5 : Nat → Int32) (k : Nat) (b : Int32) (v : Int32) (hL20 : L ≤ 20) (hkL : k < L) : MV l D [(cI, .int), (cZ, .boolean)] yProposers_begin wsProposers_begin ({ frames := 0, cells := 0, slots := 0, locals := 0 }) [.ref (q 3), .int (nI k), .int b, .int v] (wPr q cI n L f1 f2 f3 f4 f5) (fun w => w = (wPr q cI n L (upd f1 k (nI 1)) (upd f2 k b) (upd f3 k (nI 0)) (upd f4 k (-1)) (upd f5 k v))) := by
  intro sz
  refine Met.ofW (cc := cProposers_begin) (maxL := 4) (ret := (Option.none : Option ClassFile.FieldType)) (by decide) rfl ?_
  intro p e s m args below meth c s₁ B hml hv
  obtain ⟨rfl, hsz, hP, hK, hD0, hZ⟩ := hv
  have hx := B.exec
  have hb := B.bytes
  have hr := B.returns
  have hts := atoms_spec (ws := wsProposers_begin) B.pre
  have hown : s.vm.findClass RProposers = some m.cls := findClass_of_methodNamed B.named
  have hlocks := B.notSynchronized
  subst hsz
  have hD := hD0.self (sz := s.heap.size)
  generalize hAe : va_A (wPr q cI n L f1 f2 f3 f4 f5) s.heap.size = A at hD ⊢
  have hA : ∀ q : Nat, s.heap.size ≤ q → A q := fun q h => by rw [← hAe]; exact Or.inr h
  have hS : va_S A s.heap s.heap [] := va_S.rf
  have hP : va_P D vwCl (wPr q cI n L f1 f2 f3 f4 f5) s.heap := hP
  have hl := lv_entry ([.ref (q 3), .int (nI k), .int b, .int v]) (n := 4) (Nat.le_of_ble_eq_true rfl)
  rw [lg_entry_eq]
  generalize (lg_sl ([.ref (q 3), .int (nI k), .int b, .int v]) ++ List.replicate (4 - (lg_sl ([.ref (q 3), .int (nI k), .int b, .int v])).length) Slot.unset).toArray = ls at hl ⊢
  have hl : lv_has ls 4 [(0, .ref (q 3)), (1, .int (nI k)), (2, .int b), (3, .int v)] := hl
  refine lv_aload_n hx hb dProposers_begin_0 rfl (lv_at hl 0 rfl) ?_
  refine va_get (D := D) (ci := 2) (v := .ref (q 4)) (C := RProposers) (T := TProposers) (N := 6) hx hb hts (fun w h => mc (uProposers_in w h)) hown hK hP 0 rfl rfl 1 (by decide) (hts _ (mc wd47)) (fun _ h9 => h9) rfl dProposers_begin_1 ?_
  refine lv_iload_n hx hb dProposers_begin_4 rfl (lv_at hl 1 rfl) ?_
  refine lv_iconst (v := nI 1) hx hb dProposers_begin_5 (by decide) ?_
  refine ka_st (f' := upd f1 k (nI 1)) hx hb hK hP hD hS 1 0 rfl rfl (by omega) (by omega) rfl dProposers_begin_6 (fun H locs hP hD hS => ?_)
  have hP : va_P D vwCl (wPr q cI n L (upd f1 k (nI 1)) f2 f3 f4 f5) H := hP
  have hD : va_D A (wPr q cI n L (upd f1 k (nI 1)) f2 f3 f4 f5) := hD
  refine lv_aload_n hx hb dProposers_begin_7 rfl (lv_at hl 0 rfl) ?_
  refine va_get (D := D) (ci := 2) (v := .ref (q 5)) (C := RProposers) (T := TProposers) (N := 6) hx hb hts (fun w h => mc (uProposers_in w h)) hown hK hP 0 rfl rfl 2 (by decide) (hts _ (mc wd48)) (fun _ h9 => h9) rfl dProposers_begin_8 ?_
  refine lv_iload_n hx hb dProposers_begin_11 rfl (lv_at hl 1 rfl) ?_
  refine lv_iload_n hx hb dProposers_begin_12 rfl (lv_at hl 2 rfl) ?_
  refine ka_st (f' := upd f2 k b) hx hb hK hP hD hS 2 0 rfl rfl (by omega) (by omega) rfl dProposers_begin_13 (fun H locs hP hD hS => ?_)
  have hP : va_P D vwCl (wPr q cI n L (upd f1 k (nI 1)) (upd f2 k b) f3 f4 f5) H := hP
  have hD : va_D A (wPr q cI n L (upd f1 k (nI 1)) (upd f2 k b) f3 f4 f5) := hD
  refine lv_aload_n hx hb dProposers_begin_14 rfl (lv_at hl 0 rfl) ?_
  refine va_get (D := D) (ci := 2) (v := .ref (q 6)) (C := RProposers) (T := TProposers) (N := 6) hx hb hts (fun w h => mc (uProposers_in w h)) hown hK hP 0 rfl rfl 3 (by decide) (hts _ (mc wd49)) (fun _ h9 => h9) rfl dProposers_begin_15 ?_
  refine lv_iload_n hx hb dProposers_begin_18 rfl (lv_at hl 1 rfl) ?_
  refine lv_iconst (v := nI 0) hx hb dProposers_begin_19 (by decide) ?_
  refine ka_st (f' := upd f3 k (nI 0)) hx hb hK hP hD hS 3 0 rfl rfl (by omega) (by omega) rfl dProposers_begin_20 (fun H locs hP hD hS => ?_)
  have hP : va_P D vwCl (wPr q cI n L (upd f1 k (nI 1)) (upd f2 k b) (upd f3 k (nI 0)) f4 f5) H := hP
  have hD : va_D A (wPr q cI n L (upd f1 k (nI 1)) (upd f2 k b) (upd f3 k (nI 0)) f4 f5) := hD
  refine lv_aload_n hx hb dProposers_begin_21 rfl (lv_at hl 0 rfl) ?_
  refine va_get (D := D) (ci := 2) (v := .ref (q 7)) (C := RProposers) (T := TProposers) (N := 6) hx hb hts (fun w h => mc (uProposers_in w h)) hown hK hP 0 rfl rfl 4 (by decide) (hts _ (mc wd50)) (fun _ h9 => h9) rfl dProposers_begin_22 ?_
  refine lv_iload_n hx hb dProposers_begin_25 rfl (lv_at hl 1 rfl) ?_
  refine lv_iconst (v := (-1)) hx hb dProposers_begin_26 (by decide) ?_
  refine ka_st (f' := upd f4 k (-1)) hx hb hK hP hD hS 4 0 rfl rfl (by omega) (by omega) rfl dProposers_begin_27 (fun H locs hP hD hS => ?_)
  have hP : va_P D vwCl (wPr q cI n L (upd f1 k (nI 1)) (upd f2 k b) (upd f3 k (nI 0)) (upd f4 k (-1)) f5) H := hP
  have hD : va_D A (wPr q cI n L (upd f1 k (nI 1)) (upd f2 k b) (upd f3 k (nI 0)) (upd f4 k (-1)) f5) := hD
  refine lv_aload_n hx hb dProposers_begin_28 rfl (lv_at hl 0 rfl) ?_
  refine va_get (D := D) (ci := 2) (v := .ref (q 8)) (C := RProposers) (T := TProposers) (N := 6) hx hb hts (fun w h => mc (uProposers_in w h)) hown hK hP 0 rfl rfl 5 (by decide) (hts _ (mc wd51)) (fun _ h9 => h9) rfl dProposers_begin_29 ?_
  refine lv_iload_n hx hb dProposers_begin_32 rfl (lv_at hl 1 rfl) ?_
  refine lv_iload_n hx hb dProposers_begin_33 rfl (lv_at hl 3 rfl) ?_
  refine ka_st (f' := upd f5 k v) hx hb hK hP hD hS 5 0 rfl rfl (by omega) (by omega) rfl dProposers_begin_34 (fun H locs hP hD hS => ?_)
  have hP : va_P D vwCl (wPr q cI n L (upd f1 k (nI 1)) (upd f2 k b) (upd f3 k (nI 0)) (upd f4 k (-1)) (upd f5 k v)) H := hP
  have hD : va_D A (wPr q cI n L (upd f1 k (nI 1)) (upd f2 k b) (upd f3 k (nI 0)) (upd f4 k (-1)) (upd f5 k v)) := hD
  exact W.vret hx hb hr (fun t9 ht9 hW9 => ⟨⟨(wPr q cI n L (upd f1 k (nI 1)) (upd f2 k b) (upd f3 k (nI 0)) (upd f4 k (-1)) (upd f5 k v)), rfl, rfl, by rw [ht9]; exact hP, va_K.moved hW9.alike hK, hD⟩, hS.F ht9⟩) hS.2.2 dProposers_begin_35
theorem dProposers_comeBack_0 : decode cProposers_comeBack 0 = .ok (.aload_n 0, 1) := by decide +kernel
theorem dProposers_comeBack_1 : decode cProposers_comeBack 1 = .ok (.getfield 15, 3) := by decide +kernel
theorem dProposers_comeBack_4 : decode cProposers_comeBack 4 = .ok (.iload_n 1, 1) := by decide +kernel
theorem dProposers_comeBack_5 : decode cProposers_comeBack 5 = .ok (.iconst 0, 1) := by decide +kernel
theorem dProposers_comeBack_6 : decode cProposers_comeBack 6 = .ok (.iastore, 1) := by decide +kernel
theorem dProposers_comeBack_7 : decode cProposers_comeBack 7 = .ok (.aload_n 0, 1) := by decide +kernel
theorem dProposers_comeBack_8 : decode cProposers_comeBack 8 = .ok (.getfield 22, 3) := by decide +kernel
theorem dProposers_comeBack_11 : decode cProposers_comeBack 11 = .ok (.iload_n 1, 1) := by decide +kernel
theorem dProposers_comeBack_12 : decode cProposers_comeBack 12 = .ok (.iconst 0, 1) := by decide +kernel
theorem dProposers_comeBack_13 : decode cProposers_comeBack 13 = .ok (.iastore, 1) := by decide +kernel
theorem dProposers_comeBack_14 : decode cProposers_comeBack 14 = .ok (.aload_n 0, 1) := by decide +kernel
theorem dProposers_comeBack_15 : decode cProposers_comeBack 15 = .ok (.getfield 25, 3) := by decide +kernel
theorem dProposers_comeBack_18 : decode cProposers_comeBack 18 = .ok (.iload_n 1, 1) := by decide +kernel
theorem dProposers_comeBack_19 : decode cProposers_comeBack 19 = .ok (.iconst (-1), 1) := by decide +kernel
theorem dProposers_comeBack_20 : decode cProposers_comeBack 20 = .ok (.iastore, 1) := by decide +kernel
theorem dProposers_comeBack_21 : decode cProposers_comeBack 21 = .ok (.return_, 1) := by decide +kernel
set_option maxRecDepth 100000 in
set_option maxHeartbeats 4000000 in
theorem c_prBack (l : Launch) (D : va_G) (cI cZ : ClassId) (q : Nat → Nat) (n : Nat) (L : Nat) (f1 : Nat → Int32) (f2 : Nat → Int32) (f3 : Nat → Int32) (f4 : Nat → Int32) (f5 : Nat → Int32) (k : Nat) (hL20 : L ≤ 20) (hkL : k < L) : MV l D [(cI, .int), (cZ, .boolean)] yProposers_comeBack wsProposers_comeBack ({ frames := 0, cells := 0, slots := 0, locals := 0 }) [.ref (q 3), .int (nI k)] (wPr q cI n L f1 f2 f3 f4 f5) (fun w => w = (wPr q cI n L (upd f1 k (nI 0)) f2 (upd f3 k (nI 0)) (upd f4 k (-1)) f5)) := by
  intro sz
  refine Met.ofW (cc := cProposers_comeBack) (maxL := 2) (ret := (Option.none : Option ClassFile.FieldType)) (by decide) rfl ?_
  intro p e s m args below meth c s₁ B hml hv
  obtain ⟨rfl, hsz, hP, hK, hD0, hZ⟩ := hv
  have hx := B.exec
  have hb := B.bytes
  have hr := B.returns
  have hts := atoms_spec (ws := wsProposers_comeBack) B.pre
  have hown : s.vm.findClass RProposers = some m.cls := findClass_of_methodNamed B.named
  have hlocks := B.notSynchronized
  subst hsz
  have hD := hD0.self (sz := s.heap.size)
  generalize hAe : va_A (wPr q cI n L f1 f2 f3 f4 f5) s.heap.size = A at hD ⊢
  have hA : ∀ q : Nat, s.heap.size ≤ q → A q := fun q h => by rw [← hAe]; exact Or.inr h
  have hS : va_S A s.heap s.heap [] := va_S.rf
  have hP : va_P D vwCl (wPr q cI n L f1 f2 f3 f4 f5) s.heap := hP
  have hl := lv_entry ([.ref (q 3), .int (nI k)]) (n := 2) (Nat.le_of_ble_eq_true rfl)
  rw [lg_entry_eq]
  generalize (lg_sl ([.ref (q 3), .int (nI k)]) ++ List.replicate (2 - (lg_sl ([.ref (q 3), .int (nI k)])).length) Slot.unset).toArray = ls at hl ⊢
  have hl : lv_has ls 2 [(0, .ref (q 3)), (1, .int (nI k))] := hl
  refine lv_aload_n hx hb dProposers_comeBack_0 rfl (lv_at hl 0 rfl) ?_
  refine va_get (D := D) (ci := 2) (v := .ref (q 4)) (C := RProposers) (T := TProposers) (N := 6) hx hb hts (fun w h => mc (uProposers_in w h)) hown hK hP 0 rfl rfl 1 (by decide) (hts _ (mc wd47)) (fun _ h9 => h9) rfl dProposers_comeBack_1 ?_
  refine lv_iload_n hx hb dProposers_comeBack_4 rfl (lv_at hl 1 rfl) ?_
  refine lv_iconst (v := nI 0) hx hb dProposers_comeBack_5 (by decide) ?_
  refine ka_st (f' := upd f1 k (nI 0)) hx hb hK hP hD hS 1 0 rfl rfl (by omega) (by omega) rfl dProposers_comeBack_6 (fun H locs hP hD hS => ?_)
  have hP : va_P D vwCl (wPr q cI n L (upd f1 k (nI 0)) f2 f3 f4 f5) H := hP
  have hD : va_D A (wPr q cI n L (upd f1 k (nI 0)) f2 f3 f4 f5) := hD
  refine lv_aload_n hx hb dProposers_comeBack_7 rfl (lv_at hl 0 rfl) ?_
  refine va_get (D := D) (ci := 2) (v := .ref (q 6)) (C := RProposers) (T := TProposers) (N := 6) hx hb hts (fun w h => mc (uProposers_in w h)) hown hK hP 0 rfl rfl 3 (by decide) (hts _ (mc wd49)) (fun _ h9 => h9) rfl dProposers_comeBack_8 ?_
  refine lv_iload_n hx hb dProposers_comeBack_11 rfl (lv_at hl 1 rfl) ?_
  refine lv_iconst (v := nI 0) hx hb dProposers_comeBack_12 (by decide) ?_
  refine ka_st (f' := upd f3 k (nI 0)) hx hb hK hP hD hS 3 0 rfl rfl (by omega) (by omega) rfl dProposers_comeBack_13 (fun H locs hP hD hS => ?_)
  have hP : va_P D vwCl (wPr q cI n L (upd f1 k (nI 0)) f2 (upd f3 k (nI 0)) f4 f5) H := hP
  have hD : va_D A (wPr q cI n L (upd f1 k (nI 0)) f2 (upd f3 k (nI 0)) f4 f5) := hD
  refine lv_aload_n hx hb dProposers_comeBack_14 rfl (lv_at hl 0 rfl) ?_
  refine va_get (D := D) (ci := 2) (v := .ref (q 7)) (C := RProposers) (T := TProposers) (N := 6) hx hb hts (fun w h => mc (uProposers_in w h)) hown hK hP 0 rfl rfl 4 (by decide) (hts _ (mc wd50)) (fun _ h9 => h9) rfl dProposers_comeBack_15 ?_
  refine lv_iload_n hx hb dProposers_comeBack_18 rfl (lv_at hl 1 rfl) ?_
  refine lv_iconst (v := (-1)) hx hb dProposers_comeBack_19 (by decide) ?_
  refine ka_st (f' := upd f4 k (-1)) hx hb hK hP hD hS 4 0 rfl rfl (by omega) (by omega) rfl dProposers_comeBack_20 (fun H locs hP hD hS => ?_)
  have hP : va_P D vwCl (wPr q cI n L (upd f1 k (nI 0)) f2 (upd f3 k (nI 0)) (upd f4 k (-1)) f5) H := hP
  have hD : va_D A (wPr q cI n L (upd f1 k (nI 0)) f2 (upd f3 k (nI 0)) (upd f4 k (-1)) f5) := hD
  exact W.vret hx hb hr (fun t9 ht9 hW9 => ⟨⟨(wPr q cI n L (upd f1 k (nI 0)) f2 (upd f3 k (nI 0)) (upd f4 k (-1)) f5), rfl, rfl, by rw [ht9]; exact hP, va_K.moved hW9.alike hK, hD⟩, hS.F ht9⟩) hS.2.2 dProposers_comeBack_21
theorem dProposers_awaits_0 : decode cProposers_awaits 0 = .ok (.aload_n 0, 1) := by decide +kernel
theorem dProposers_awaits_1 : decode cProposers_awaits 1 = .ok (.getfield 15, 3) := by decide +kernel
theorem dProposers_awaits_4 : decode cProposers_awaits 4 = .ok (.iload_n 1, 1) := by decide +kernel
theorem dProposers_awaits_5 : decode cProposers_awaits 5 = .ok (.iaload, 1) := by decide +kernel
theorem dProposers_awaits_6 : decode cProposers_awaits 6 = .ok (.iconst 1, 1) := by decide +kernel
theorem dProposers_awaits_7 : decode cProposers_awaits 7 = .ok (.if_icmp .ne 17, 3) := by decide +kernel
theorem dProposers_awaits_10 : decode cProposers_awaits 10 = .ok (.aload_n 0, 1) := by decide +kernel
theorem dProposers_awaits_11 : decode cProposers_awaits 11 = .ok (.getfield 19, 3) := by decide +kernel
theorem dProposers_awaits_14 : decode cProposers_awaits 14 = .ok (.iload_n 1, 1) := by decide +kernel
theorem dProposers_awaits_15 : decode cProposers_awaits 15 = .ok (.iaload, 1) := by decide +kernel
theorem dProposers_awaits_16 : decode cProposers_awaits 16 = .ok (.iload_n 2, 1) := by decide +kernel
theorem dProposers_awaits_17 : decode cProposers_awaits 17 = .ok (.if_icmp .ne 7, 3) := by decide +kernel
theorem dProposers_awaits_20 : decode cProposers_awaits 20 = .ok (.iconst 1, 1) := by decide +kernel
theorem dProposers_awaits_21 : decode cProposers_awaits 21 = .ok (.goto 4, 3) := by decide +kernel
theorem dProposers_awaits_24 : decode cProposers_awaits 24 = .ok (.iconst 0, 1) := by decide +kernel
theorem dProposers_awaits_25 : decode cProposers_awaits 25 = .ok (.ireturn, 1) := by decide +kernel
set_option maxRecDepth 100000 in
set_option maxHeartbeats 4000000 in
theorem c_awaits (l : Launch) (D : va_G) (cI cZ : ClassId) (q : Nat → Nat) (n : Nat) (L : Nat) (f1 : Nat → Int32) (f2 : Nat → Int32) (f3 : Nat → Int32) (f4 : Nat → Int32) (f5 : Nat → Int32) (k : Nat) (b : Int32) (hL20 : L ≤ 20) (hkL : k < L) : MI l D [(cI, .int), (cZ, .boolean)] yProposers_awaits wsProposers_awaits ({ frames := 0, cells := 0, slots := 0, locals := 0 }) [.ref (q 3), .int (nI k), .int b] (wPr q cI n L f1 f2 f3 f4 f5) (fun r w => (r = nI 1 ∧ (f1 k = nI 1 ∧ f2 k = b) ∧ w = (wPr q cI n L f1 f2 f3 f4 f5)) ∨ (r = nI 0 ∧ (¬ (f1 k = nI 1 ∧ f2 k = b)) ∧ w = (wPr q cI n L f1 f2 f3 f4 f5))) := by
  intro sz
  refine Met.ofW (cc := cProposers_awaits) (maxL := 3) (ret := (Option.some .boolean)) (by decide) rfl ?_
  intro p e s m args below meth c s₁ B hml hv
  obtain ⟨rfl, hsz, hP, hK, hD0, hZ⟩ := hv
  have hx := B.exec
  have hb := B.bytes
  have hr := B.returns
  have hts := atoms_spec (ws := wsProposers_awaits) B.pre
  have hown : s.vm.findClass RProposers = some m.cls := findClass_of_methodNamed B.named
  have hlocks := B.notSynchronized
  subst hsz
  have hD := hD0.self (sz := s.heap.size)
  generalize hAe : va_A (wPr q cI n L f1 f2 f3 f4 f5) s.heap.size = A at hD ⊢
  have hA : ∀ q : Nat, s.heap.size ≤ q → A q := fun q h => by rw [← hAe]; exact Or.inr h
  have hS : va_S A s.heap s.heap [] := va_S.rf
  have hP : va_P D vwCl (wPr q cI n L f1 f2 f3 f4 f5) s.heap := hP
  have hl := lv_entry ([.ref (q 3), .int (nI k), .int b]) (n := 3) (Nat.le_of_ble_eq_true rfl)
  rw [lg_entry_eq]
  generalize (lg_sl ([.ref (q 3), .int (nI k), .int b]) ++ List.replicate (3 - (lg_sl ([.ref (q 3), .int (nI k), .int b])).length) Slot.unset).toArray = ls at hl ⊢
  have hl : lv_has ls 3 [(0, .ref (q 3)), (1, .int (nI k)), (2, .int b)] := hl
  refine lv_aload_n hx hb dProposers_awaits_0 rfl (lv_at hl 0 rfl) ?_
  refine va_get (D := D) (ci := 2) (v := .ref (q 4)) (C := RProposers) (T := TProposers) (N := 6) hx hb hts (fun w h => mc (uProposers_in w h)) hown hK hP 0 rfl rfl 1 (by decide) (hts _ (mc wd47)) (fun _ h9 => h9) rfl dProposers_awaits_1 ?_
  refine lv_iload_n hx hb dProposers_awaits_4 rfl (lv_at hl 1 rfl) ?_
  refine ka_ld (v := f1 k) hx hb hK hP 1 0 rfl rfl (by omega) (by omega) rfl dProposers_awaits_5 ?_
  refine lv_iconst (v := nI 1) hx hb dProposers_awaits_6 (by decide) ?_
  refine lv_icmp_ne (tgt := 24) hx hb dProposers_awaits_7 (by decide) (fun c7 => ?_) (fun c7 => ?_)
  · refine lv_iconst (v := nI 0) hx hb dProposers_awaits_24 (by decide) ?_
    exact W.zret (v := nI 0) (ty := .boolean) hx hb hr (by decide) (fun t9 ht9 hW9 => ⟨⟨nI 0, (wPr q cI n L f1 f2 f3 f4 f5), rfl, Or.inr ⟨rfl, fun h => c7 h.1, rfl⟩, by rw [ht9]; exact hP, va_K.moved hW9.alike hK, hD⟩, hS.F ht9⟩) hS.2.2 dProposers_awaits_25
  · refine lv_aload_n hx hb dProposers_awaits_10 rfl (lv_at hl 0 rfl) ?_
    refine va_get (D := D) (ci := 2) (v := .ref (q 5)) (C := RProposers) (T := TProposers) (N := 6) hx hb hts (fun w h => mc (uProposers_in w h)) hown hK hP 0 rfl rfl 2 (by decide) (hts _ (mc wd48)) (fun _ h9 => h9) rfl dProposers_awaits_11 ?_
    refine lv_iload_n hx hb dProposers_awaits_14 rfl (lv_at hl 1 rfl) ?_
    refine ka_ld (v := f2 k) hx hb hK hP 2 0 rfl rfl (by omega) (by omega) rfl dProposers_awaits_15 ?_
    refine lv_iload_n hx hb dProposers_awaits_16 rfl (lv_at hl 2 rfl) ?_
    refine lv_icmp_ne (tgt := 24) hx hb dProposers_awaits_17 (by decide) (fun c17 => ?_) (fun c17 => ?_)
    · refine lv_iconst (v := nI 0) hx hb dProposers_awaits_24 (by decide) ?_
      exact W.zret (v := nI 0) (ty := .boolean) hx hb hr (by decide) (fun t9 ht9 hW9 => ⟨⟨nI 0, (wPr q cI n L f1 f2 f3 f4 f5), rfl, Or.inr ⟨rfl, fun h => c17 h.2, rfl⟩, by rw [ht9]; exact hP, va_K.moved hW9.alike hK, hD⟩, hS.F ht9⟩) hS.2.2 dProposers_awaits_25
    · refine lv_iconst (v := nI 1) hx hb dProposers_awaits_20 (by decide) ?_
      refine lv_goto (tgt := 25) hx hb dProposers_awaits_21 (by decide) ?_
      exact W.zret (v := nI 1) (ty := .boolean) hx hb hr (by decide) (fun t9 ht9 hW9 => ⟨⟨nI 1, (wPr q cI n L f1 f2 f3 f4 f5), rfl, Or.inl ⟨rfl, ⟨c7, c17⟩, rfl⟩, by rw [ht9]; exact hP, va_K.moved hW9.alike hK, hD⟩, hS.F ht9⟩) hS.2.2 dProposers_awaits_25
theorem dAcceptors_promisedBallot_0 : decode cAcceptors_promisedBallot 0 = .ok (.aload_n 0, 1) := by decide +kernel
theorem dAcceptors_promisedBallot_1 : decode cAcceptors_promisedBallot 1 = .ok (.getfield 18, 3) := by decide +kernel
theorem dAcceptors_promisedBallot_4 : decode cAcceptors_promisedBallot 4 = .ok (.iload_n 1, 1) := by decide +kernel
theorem dAcceptors_promisedBallot_5 : decode cAcceptors_promisedBallot 5 = .ok (.iaload, 1) := by decide +kernel
theorem dAcceptors_promisedBallot_6 : decode cAcceptors_promisedBallot 6 = .ok (.ireturn, 1) := by decide +kernel
set_option maxRecDepth 100000 in
set_option maxHeartbeats 4000000 in
theorem c_ac_promisedBallot (l : Launch) (D : va_G) (cI cZ : ClassId) (q : Nat → Nat) (n : Nat) (S : Nat) (L : Nat) (f6 : Nat → Int32) (f7 : Nat → Int32) (f8 : Nat → Int32) (k : Nat) (hL20 : L ≤ 20) (hkL : k < L) : MI l D [(cI, .int), (cZ, .boolean)] yAcceptors_promisedBallot wsAcceptors_promisedBallot ({ frames := 0, cells := 0, slots := 0, locals := 0 }) [.ref (q 9), .int (nI k)] (wAc q cI n S L f6 f7 f8) (fun r w => r = f6 k ∧ w = (wAc q cI n S L f6 f7 f8)) := by
  intro sz
  refine Met.ofW (cc := cAcceptors_promisedBallot) (maxL := 2) (ret := (Option.some .int)) (by decide) rfl ?_
  intro p e s m args below meth c s₁ B hml hv
  obtain ⟨rfl, hsz, hP, hK, hD0, hZ⟩ := hv
  have hx := B.exec
  have hb := B.bytes
  have hr := B.returns
  have hts := atoms_spec (ws := wsAcceptors_promisedBallot) B.pre
  have hown : s.vm.findClass RAcceptors = some m.cls := findClass_of_methodNamed B.named
  have hlocks := B.notSynchronized
  subst hsz
  have hD := hD0.self (sz := s.heap.size)
  generalize hAe : va_A (wAc q cI n S L f6 f7 f8) s.heap.size = A at hD ⊢
  have hA : ∀ q : Nat, s.heap.size ≤ q → A q := fun q h => by rw [← hAe]; exact Or.inr h
  have hS : va_S A s.heap s.heap [] := va_S.rf
  have hP : va_P D vwCl (wAc q cI n S L f6 f7 f8) s.heap := hP
  have hl := lv_entry ([.ref (q 9), .int (nI k)]) (n := 2) (Nat.le_of_ble_eq_true rfl)
  rw [lg_entry_eq]
  generalize (lg_sl ([.ref (q 9), .int (nI k)]) ++ List.replicate (2 - (lg_sl ([.ref (q 9), .int (nI k)])).length) Slot.unset).toArray = ls at hl ⊢
  have hl : lv_has ls 2 [(0, .ref (q 9)), (1, .int (nI k))] := hl
  refine lv_aload_n hx hb dAcceptors_promisedBallot_0 rfl (lv_at hl 0 rfl) ?_
  refine va_get (D := D) (ci := 3) (v := .ref (q 10)) (C := RAcceptors) (T := TAcceptors) (N := 5) hx hb hts (fun w h => mc (uAcceptors_in w h)) hown hK hP 0 rfl rfl 2 (by decide) (hts _ (mc wd74)) (fun _ h9 => h9) rfl dAcceptors_promisedBallot_1 ?_
  refine lv_iload_n hx hb dAcceptors_promisedBallot_4 rfl (lv_at hl 1 rfl) ?_
  refine ka_ld (v := f6 k) hx hb hK hP 1 0 rfl rfl (by omega) (by omega) rfl dAcceptors_promisedBallot_5 ?_
  exact W.iret (v := f6 k) hx hb hr (fun t9 ht9 hW9 => ⟨⟨f6 k, (wAc q cI n S L f6 f7 f8), rfl, ⟨rfl, rfl⟩, by rw [ht9]; exact hP, va_K.moved hW9.alike hK, hD⟩, hS.F ht9⟩) hS.2.2 dAcceptors_promisedBallot_6
theorem dAcceptors_acceptedBallot_0 : decode cAcceptors_acceptedBallot 0 = .ok (.aload_n 0, 1) := by decide +kernel
theorem dAcceptors_acceptedBallot_1 : decode cAcceptors_acceptedBallot 1 = .ok (.getfield 22, 3) := by decide +kernel
theorem dAcceptors_acceptedBallot_4 : decode cAcceptors_acceptedBallot 4 = .ok (.iload_n 1, 1) := by decide +kernel
theorem dAcceptors_acceptedBallot_5 : decode cAcceptors_acceptedBallot 5 = .ok (.iaload, 1) := by decide +kernel
theorem dAcceptors_acceptedBallot_6 : decode cAcceptors_acceptedBallot 6 = .ok (.ireturn, 1) := by decide +kernel
set_option maxRecDepth 100000 in
set_option maxHeartbeats 4000000 in
theorem c_ac_acceptedBallot (l : Launch) (D : va_G) (cI cZ : ClassId) (q : Nat → Nat) (n : Nat) (S : Nat) (L : Nat) (f6 : Nat → Int32) (f7 : Nat → Int32) (f8 : Nat → Int32) (k : Nat) (hL20 : L ≤ 20) (hkL : k < L) : MI l D [(cI, .int), (cZ, .boolean)] yAcceptors_acceptedBallot wsAcceptors_acceptedBallot ({ frames := 0, cells := 0, slots := 0, locals := 0 }) [.ref (q 9), .int (nI k)] (wAc q cI n S L f6 f7 f8) (fun r w => r = f7 k ∧ w = (wAc q cI n S L f6 f7 f8)) := by
  intro sz
  refine Met.ofW (cc := cAcceptors_acceptedBallot) (maxL := 2) (ret := (Option.some .int)) (by decide) rfl ?_
  intro p e s m args below meth c s₁ B hml hv
  obtain ⟨rfl, hsz, hP, hK, hD0, hZ⟩ := hv
  have hx := B.exec
  have hb := B.bytes
  have hr := B.returns
  have hts := atoms_spec (ws := wsAcceptors_acceptedBallot) B.pre
  have hown : s.vm.findClass RAcceptors = some m.cls := findClass_of_methodNamed B.named
  have hlocks := B.notSynchronized
  subst hsz
  have hD := hD0.self (sz := s.heap.size)
  generalize hAe : va_A (wAc q cI n S L f6 f7 f8) s.heap.size = A at hD ⊢
  have hA : ∀ q : Nat, s.heap.size ≤ q → A q := fun q h => by rw [← hAe]; exact Or.inr h
  have hS : va_S A s.heap s.heap [] := va_S.rf
  have hP : va_P D vwCl (wAc q cI n S L f6 f7 f8) s.heap := hP
  have hl := lv_entry ([.ref (q 9), .int (nI k)]) (n := 2) (Nat.le_of_ble_eq_true rfl)
  rw [lg_entry_eq]
  generalize (lg_sl ([.ref (q 9), .int (nI k)]) ++ List.replicate (2 - (lg_sl ([.ref (q 9), .int (nI k)])).length) Slot.unset).toArray = ls at hl ⊢
  have hl : lv_has ls 2 [(0, .ref (q 9)), (1, .int (nI k))] := hl
  refine lv_aload_n hx hb dAcceptors_acceptedBallot_0 rfl (lv_at hl 0 rfl) ?_
  refine va_get (D := D) (ci := 3) (v := .ref (q 11)) (C := RAcceptors) (T := TAcceptors) (N := 5) hx hb hts (fun w h => mc (uAcceptors_in w h)) hown hK hP 0 rfl rfl 3 (by decide) (hts _ (mc wd75)) (fun _ h9 => h9) rfl dAcceptors_acceptedBallot_1 ?_
  refine lv_iload_n hx hb dAcceptors_acceptedBallot_4 rfl (lv_at hl 1 rfl) ?_
  refine ka_ld (v := f7 k) hx hb hK hP 2 0 rfl rfl (by omega) (by omega) rfl dAcceptors_acceptedBallot_5 ?_
  exact W.iret (v := f7 k) hx hb hr (fun t9 ht9 hW9 => ⟨⟨f7 k, (wAc q cI n S L f6 f7 f8), rfl, ⟨rfl, rfl⟩, by rw [ht9]; exact hP, va_K.moved hW9.alike hK, hD⟩, hS.F ht9⟩) hS.2.2 dAcceptors_acceptedBallot_6
theorem dAcceptors_acceptedValue_0 : decode cAcceptors_acceptedValue 0 = .ok (.aload_n 0, 1) := by decide +kernel
theorem dAcceptors_acceptedValue_1 : decode cAcceptors_acceptedValue 1 = .ok (.getfield 25, 3) := by decide +kernel
theorem dAcceptors_acceptedValue_4 : decode cAcceptors_acceptedValue 4 = .ok (.iload_n 1, 1) := by decide +kernel
theorem dAcceptors_acceptedValue_5 : decode cAcceptors_acceptedValue 5 = .ok (.iaload, 1) := by decide +kernel
theorem dAcceptors_acceptedValue_6 : decode cAcceptors_acceptedValue 6 = .ok (.ireturn, 1) := by decide +kernel
set_option maxRecDepth 100000 in
set_option maxHeartbeats 4000000 in
theorem c_ac_acceptedValue (l : Launch) (D : va_G) (cI cZ : ClassId) (q : Nat → Nat) (n : Nat) (S : Nat) (L : Nat) (f6 : Nat → Int32) (f7 : Nat → Int32) (f8 : Nat → Int32) (k : Nat) (hL20 : L ≤ 20) (hkL : k < L) : MI l D [(cI, .int), (cZ, .boolean)] yAcceptors_acceptedValue wsAcceptors_acceptedValue ({ frames := 0, cells := 0, slots := 0, locals := 0 }) [.ref (q 9), .int (nI k)] (wAc q cI n S L f6 f7 f8) (fun r w => r = f8 k ∧ w = (wAc q cI n S L f6 f7 f8)) := by
  intro sz
  refine Met.ofW (cc := cAcceptors_acceptedValue) (maxL := 2) (ret := (Option.some .int)) (by decide) rfl ?_
  intro p e s m args below meth c s₁ B hml hv
  obtain ⟨rfl, hsz, hP, hK, hD0, hZ⟩ := hv
  have hx := B.exec
  have hb := B.bytes
  have hr := B.returns
  have hts := atoms_spec (ws := wsAcceptors_acceptedValue) B.pre
  have hown : s.vm.findClass RAcceptors = some m.cls := findClass_of_methodNamed B.named
  have hlocks := B.notSynchronized
  subst hsz
  have hD := hD0.self (sz := s.heap.size)
  generalize hAe : va_A (wAc q cI n S L f6 f7 f8) s.heap.size = A at hD ⊢
  have hA : ∀ q : Nat, s.heap.size ≤ q → A q := fun q h => by rw [← hAe]; exact Or.inr h
  have hS : va_S A s.heap s.heap [] := va_S.rf
  have hP : va_P D vwCl (wAc q cI n S L f6 f7 f8) s.heap := hP
  have hl := lv_entry ([.ref (q 9), .int (nI k)]) (n := 2) (Nat.le_of_ble_eq_true rfl)
  rw [lg_entry_eq]
  generalize (lg_sl ([.ref (q 9), .int (nI k)]) ++ List.replicate (2 - (lg_sl ([.ref (q 9), .int (nI k)])).length) Slot.unset).toArray = ls at hl ⊢
  have hl : lv_has ls 2 [(0, .ref (q 9)), (1, .int (nI k))] := hl
  refine lv_aload_n hx hb dAcceptors_acceptedValue_0 rfl (lv_at hl 0 rfl) ?_
  refine va_get (D := D) (ci := 3) (v := .ref (q 12)) (C := RAcceptors) (T := TAcceptors) (N := 5) hx hb hts (fun w h => mc (uAcceptors_in w h)) hown hK hP 0 rfl rfl 4 (by decide) (hts _ (mc wd76)) (fun _ h9 => h9) rfl dAcceptors_acceptedValue_1 ?_
  refine lv_iload_n hx hb dAcceptors_acceptedValue_4 rfl (lv_at hl 1 rfl) ?_
  refine ka_ld (v := f8 k) hx hb hK hP 3 0 rfl rfl (by omega) (by omega) rfl dAcceptors_acceptedValue_5 ?_
  exact W.iret (v := f8 k) hx hb hr (fun t9 ht9 hW9 => ⟨⟨f8 k, (wAc q cI n S L f6 f7 f8), rfl, ⟨rfl, rfl⟩, by rw [ht9]; exact hP, va_K.moved hW9.alike hK, hD⟩, hS.F ht9⟩) hS.2.2 dAcceptors_acceptedValue_6
theorem dAcceptors_promise_0 : decode cAcceptors_promise 0 = .ok (.iload_n 2, 1) := by decide +kernel
theorem dAcceptors_promise_1 : decode cAcceptors_promise 1 = .ok (.aload_n 0, 1) := by decide +kernel
theorem dAcceptors_promise_2 : decode cAcceptors_promise 2 = .ok (.getfield 18, 3) := by decide +kernel
theorem dAcceptors_promise_5 : decode cAcceptors_promise 5 = .ok (.iload_n 1, 1) := by decide +kernel
theorem dAcceptors_promise_6 : decode cAcceptors_promise 6 = .ok (.iaload, 1) := by decide +kernel
theorem dAcceptors_promise_7 : decode cAcceptors_promise 7 = .ok (.if_icmp .gt 5, 3) := by decide +kernel
theorem dAcceptors_promise_10 : decode cAcceptors_promise 10 = .ok (.iconst 0, 1) := by decide +kernel
theorem dAcceptors_promise_11 : decode cAcceptors_promise 11 = .ok (.ireturn, 1) := by decide +kernel
theorem dAcceptors_promise_12 : decode cAcceptors_promise 12 = .ok (.aload_n 0, 1) := by decide +kernel
theorem dAcceptors_promise_13 : decode cAcceptors_promise 13 = .ok (.getfield 18, 3) := by decide +kernel
theorem dAcceptors_promise_16 : decode cAcceptors_promise 16 = .ok (.iload_n 1, 1) := by decide +kernel
theorem dAcceptors_promise_17 : decode cAcceptors_promise 17 = .ok (.iload_n 2, 1) := by decide +kernel
theorem dAcceptors_promise_18 : decode cAcceptors_promise 18 = .ok (.iastore, 1) := by decide +kernel
theorem dAcceptors_promise_19 : decode cAcceptors_promise 19 = .ok (.iconst 1, 1) := by decide +kernel
theorem dAcceptors_promise_20 : decode cAcceptors_promise 20 = .ok (.ireturn, 1) := by decide +kernel
set_option maxRecDepth 100000 in
set_option maxHeartbeats 4000000 in
theorem c_promise (l : Launch) (D : va_G) (cI cZ : ClassId) (q : Nat → Nat) (n : Nat) (S : Nat) (L : Nat) (f6 : Nat → Int32) (f7 : Nat → Int32) (f8 : Nat → Int32) (k : Nat) (b : Int32) (hL20 : L ≤ 20) (hkL : k < L) : MI l D [(cI, .int), (cZ, .boolean)] yAcceptors_promise wsAcceptors_promise ({ frames := 0, cells := 0, slots := 0, locals := 0 }) [.ref (q 9), .int (nI k), .int b] (wAc q cI n S L f6 f7 f8) (fun r w => (r = nI 1 ∧ (f6 k < b) ∧ w = (wAc q cI n S L (upd f6 k b) f7 f8)) ∨ (r = nI 0 ∧ (¬ f6 k < b) ∧ w = (wAc q cI n S L f6 f7 f8))) := by
  intro sz
  refine Met.ofW (cc := cAcceptors_promise) (maxL := 3) (ret := (Option.some .boolean)) (by decide) rfl ?_
  intro p e s m args below meth c s₁ B hml hv
  obtain ⟨rfl, hsz, hP, hK, hD0, hZ⟩ := hv
  have hx := B.exec
  have hb := B.bytes
  have hr := B.returns
  have hts := atoms_spec (ws := wsAcceptors_promise) B.pre
  have hown : s.vm.findClass RAcceptors = some m.cls := findClass_of_methodNamed B.named
  have hlocks := B.notSynchronized
  subst hsz
  have hD := hD0.self (sz := s.heap.size)
  generalize hAe : va_A (wAc q cI n S L f6 f7 f8) s.heap.size = A at hD ⊢
  have hA : ∀ q : Nat, s.heap.size ≤ q → A q := fun q h => by rw [← hAe]; exact Or.inr h
  have hS : va_S A s.heap s.heap [] := va_S.rf
  have hP : va_P D vwCl (wAc q cI n S L f6 f7 f8) s.heap := hP
  have hl := lv_entry ([.ref (q 9), .int (nI k), .int b]) (n := 3) (Nat.le_of_ble_eq_true rfl)
  rw [lg_entry_eq]
  generalize (lg_sl ([.ref (q 9), .int (nI k), .int b]) ++ List.replicate (3 - (lg_sl ([.ref (q 9), .int (nI k), .int b])).length) Slot.unset).toArray = ls at hl ⊢
  have hl : lv_has ls 3 [(0, .ref (q 9)), (1, .int (nI k)), (2, .int b)] := hl
  refine lv_iload_n hx hb dAcceptors_promise_0 rfl (lv_at hl 2 rfl) ?_
  refine lv_aload_n hx hb dAcceptors_promise_1 rfl (lv_at hl 0 rfl) ?_
  refine va_get (D := D) (ci := 3) (v := .ref (q 10)) (C := RAcceptors) (T := TAcceptors) (N := 5) hx hb hts (fun w h => mc (uAcceptors_in w h)) hown hK hP 0 rfl rfl 2 (by decide) (hts _ (mc wd74)) (fun _ h9 => h9) rfl dAcceptors_promise_2 ?_
  refine lv_iload_n hx hb dAcceptors_promise_5 rfl (lv_at hl 1 rfl) ?_
  refine ka_ld (v := f6 k) hx hb hK hP 1 0 rfl rfl (by omega) (by omega) rfl dAcceptors_promise_6 ?_
  refine lv_icmp_gt (tgt := 12) hx hb dAcceptors_promise_7 (by decide) (fun c7 => ?_) (fun c7 => ?_)
  · refine lv_aload_n hx hb dAcceptors_promise_12 rfl (lv_at hl 0 rfl) ?_
    refine va_get (D := D) (ci := 3) (v := .ref (q 10)) (C := RAcceptors) (T := TAcceptors) (N := 5) hx hb hts (fun w h => mc (uAcceptors_in w h)) hown hK hP 0 rfl rfl 2 (by decide) (hts _ (mc wd74)) (fun _ h9 => h9) rfl dAcceptors_promise_13 ?_
    refine lv_iload_n hx hb dAcceptors_promise_16 rfl (lv_at hl 1 rfl) ?_
    refine lv_iload_n hx hb dAcceptors_promise_17 rfl (lv_at hl 2 rfl) ?_
    refine ka_st (f' := upd f6 k b) hx hb hK hP hD hS 1 0 rfl rfl (by omega) (by omega) rfl dAcceptors_promise_18 (fun H locs hP hD hS => ?_)
    have hP : va_P D vwCl (wAc q cI n S L (upd f6 k b) f7 f8) H := hP
    have hD : va_D A (wAc q cI n S L (upd f6 k b) f7 f8) := hD
    refine lv_iconst (v := nI 1) hx hb dAcceptors_promise_19 (by decide) ?_
    exact W.zret (v := nI 1) (ty := .boolean) hx hb hr (by decide) (fun t9 ht9 hW9 => ⟨⟨nI 1, (wAc q cI n S L (upd f6 k b) f7 f8), rfl, Or.inl ⟨rfl, c7, rfl⟩, by rw [ht9]; exact hP, va_K.moved hW9.alike hK, hD⟩, hS.F ht9⟩) hS.2.2 dAcceptors_promise_20
  · refine lv_iconst (v := nI 0) hx hb dAcceptors_promise_10 (by decide) ?_
    exact W.zret (v := nI 0) (ty := .boolean) hx hb hr (by decide) (fun t9 ht9 hW9 => ⟨⟨nI 0, (wAc q cI n S L f6 f7 f8), rfl, Or.inr ⟨rfl, c7, rfl⟩, by rw [ht9]; exact hP, va_K.moved hW9.alike hK, hD⟩, hS.F ht9⟩) hS.2.2 dAcceptors_promise_11
theorem dAcceptors_wouldAccept_0 : decode cAcceptors_wouldAccept 0 = .ok (.iload_n 2, 1) := by decide +kernel
theorem dAcceptors_wouldAccept_1 : decode cAcceptors_wouldAccept 1 = .ok (.aload_n 0, 1) := by decide +kernel
theorem dAcceptors_wouldAccept_2 : decode cAcceptors_wouldAccept 2 = .ok (.getfield 18, 3) := by decide +kernel
theorem dAcceptors_wouldAccept_5 : decode cAcceptors_wouldAccept 5 = .ok (.iload_n 1, 1) := by decide +kernel
theorem dAcceptors_wouldAccept_6 : decode cAcceptors_wouldAccept 6 = .ok (.iaload, 1) := by decide +kernel
theorem dAcceptors_wouldAccept_7 : decode cAcceptors_wouldAccept 7 = .ok (.if_icmp .lt 7, 3) := by decide +kernel
theorem dAcceptors_wouldAccept_10 : decode cAcceptors_wouldAccept 10 = .ok (.iconst 1, 1) := by decide +kernel
theorem dAcceptors_wouldAccept_11 : decode cAcceptors_wouldAccept 11 = .ok (.goto 4, 3) := by decide +kernel
theorem dAcceptors_wouldAccept_14 : decode cAcceptors_wouldAccept 14 = .ok (.iconst 0, 1) := by decide +kernel
theorem dAcceptors_wouldAccept_15 : decode cAcceptors_wouldAccept 15 = .ok (.ireturn, 1) := by decide +kernel
set_option maxRecDepth 100000 in
set_option maxHeartbeats 4000000 in
theorem c_wouldAccept (l : Launch) (D : va_G) (cI cZ : ClassId) (q : Nat → Nat) (n : Nat) (S : Nat) (L : Nat) (f6 : Nat → Int32) (f7 : Nat → Int32) (f8 : Nat → Int32) (k : Nat) (b : Int32) (hL20 : L ≤ 20) (hkL : k < L) : MI l D [(cI, .int), (cZ, .boolean)] yAcceptors_wouldAccept wsAcceptors_wouldAccept ({ frames := 0, cells := 0, slots := 0, locals := 0 }) [.ref (q 9), .int (nI k), .int b] (wAc q cI n S L f6 f7 f8) (fun r w => (r = nI 1 ∧ (f6 k ≤ b) ∧ w = (wAc q cI n S L f6 f7 f8)) ∨ (r = nI 0 ∧ (¬ f6 k ≤ b) ∧ w = (wAc q cI n S L f6 f7 f8))) := by
  intro sz
  refine Met.ofW (cc := cAcceptors_wouldAccept) (maxL := 3) (ret := (Option.some .boolean)) (by decide) rfl ?_
  intro p e s m args below meth c s₁ B hml hv
  obtain ⟨rfl, hsz, hP, hK, hD0, hZ⟩ := hv
  have hx := B.exec
  have hb := B.bytes
  have hr := B.returns
  have hts := atoms_spec (ws := wsAcceptors_wouldAccept) B.pre
  have hown : s.vm.findClass RAcceptors = some m.cls := findClass_of_methodNamed B.named
  have hlocks := B.notSynchronized
  subst hsz
  have hD := hD0.self (sz := s.heap.size)
  generalize hAe : va_A (wAc q cI n S L f6 f7 f8) s.heap.size = A at hD ⊢
  have hA : ∀ q : Nat, s.heap.size ≤ q → A q := fun q h => by rw [← hAe]; exact Or.inr h
  have hS : va_S A s.heap s.heap [] := va_S.rf
  have hP : va_P D vwCl (wAc q cI n S L f6 f7 f8) s.heap := hP
  have hl := lv_entry ([.ref (q 9), .int (nI k), .int b]) (n := 3) (Nat.le_of_ble_eq_true rfl)
  rw [lg_entry_eq]
  generalize (lg_sl ([.ref (q 9), .int (nI k), .int b]) ++ List.replicate (3 - (lg_sl ([.ref (q 9), .int (nI k), .int b])).length) Slot.unset).toArray = ls at hl ⊢
  have hl : lv_has ls 3 [(0, .ref (q 9)), (1, .int (nI k)), (2, .int b)] := hl
  refine lv_iload_n hx hb dAcceptors_wouldAccept_0 rfl (lv_at hl 2 rfl) ?_
  refine lv_aload_n hx hb dAcceptors_wouldAccept_1 rfl (lv_at hl 0 rfl) ?_
  refine va_get (D := D) (ci := 3) (v := .ref (q 10)) (C := RAcceptors) (T := TAcceptors) (N := 5) hx hb hts (fun w h => mc (uAcceptors_in w h)) hown hK hP 0 rfl rfl 2 (by decide) (hts _ (mc wd74)) (fun _ h9 => h9) rfl dAcceptors_wouldAccept_2 ?_
  refine lv_iload_n hx hb dAcceptors_wouldAccept_5 rfl (lv_at hl 1 rfl) ?_
  refine ka_ld (v := f6 k) hx hb hK hP 1 0 rfl rfl (by omega) (by omega) rfl dAcceptors_wouldAccept_6 ?_
  refine lv_icmp_lt (tgt := 14) hx hb dAcceptors_wouldAccept_7 (by decide) (fun c7 => ?_) (fun c7 => ?_)
  · refine lv_iconst (v := nI 0) hx hb dAcceptors_wouldAccept_14 (by decide) ?_
    exact W.zret (v := nI 0) (ty := .boolean) hx hb hr (by decide) (fun t9 ht9 hW9 => ⟨⟨nI 0, (wAc q cI n S L f6 f7 f8), rfl, Or.inr ⟨rfl, Int32.not_le.mpr c7, rfl⟩, by rw [ht9]; exact hP, va_K.moved hW9.alike hK, hD⟩, hS.F ht9⟩) hS.2.2 dAcceptors_wouldAccept_15
  · refine lv_iconst (v := nI 1) hx hb dAcceptors_wouldAccept_10 (by decide) ?_
    refine lv_goto (tgt := 15) hx hb dAcceptors_wouldAccept_11 (by decide) ?_
    exact W.zret (v := nI 1) (ty := .boolean) hx hb hr (by decide) (fun t9 ht9 hW9 => ⟨⟨nI 1, (wAc q cI n S L f6 f7 f8), rfl, Or.inl ⟨rfl, Int32.not_lt.mp c7, rfl⟩, by rw [ht9]; exact hP, va_K.moved hW9.alike hK, hD⟩, hS.F ht9⟩) hS.2.2 dAcceptors_wouldAccept_15
theorem dAcceptors_accept_0 : decode cAcceptors_accept 0 = .ok (.aload_n 0, 1) := by decide +kernel
theorem dAcceptors_accept_1 : decode cAcceptors_accept 1 = .ok (.iload_n 1, 1) := by decide +kernel
theorem dAcceptors_accept_2 : decode cAcceptors_accept 2 = .ok (.iload_n 2, 1) := by decide +kernel
theorem dAcceptors_accept_3 : decode cAcceptors_accept 3 = .ok (.invokevirtual 34, 3) := by decide +kernel
theorem dAcceptors_accept_6 : decode cAcceptors_accept 6 = .ok (.ifCond .ne 5, 3) := by decide +kernel
theorem dAcceptors_accept_9 : decode cAcceptors_accept 9 = .ok (.iconst 0, 1) := by decide +kernel
theorem dAcceptors_accept_10 : decode cAcceptors_accept 10 = .ok (.ireturn, 1) := by decide +kernel
theorem dAcceptors_accept_11 : decode cAcceptors_accept 11 = .ok (.aload_n 0, 1) := by decide +kernel
theorem dAcceptors_accept_12 : decode cAcceptors_accept 12 = .ok (.getfield 18, 3) := by decide +kernel
theorem dAcceptors_accept_15 : decode cAcceptors_accept 15 = .ok (.iload_n 1, 1) := by decide +kernel
theorem dAcceptors_accept_16 : decode cAcceptors_accept 16 = .ok (.iload_n 2, 1) := by decide +kernel
theorem dAcceptors_accept_17 : decode cAcceptors_accept 17 = .ok (.iastore, 1) := by decide +kernel
theorem dAcceptors_accept_18 : decode cAcceptors_accept 18 = .ok (.aload_n 0, 1) := by decide +kernel
theorem dAcceptors_accept_19 : decode cAcceptors_accept 19 = .ok (.getfield 22, 3) := by decide +kernel
theorem dAcceptors_accept_22 : decode cAcceptors_accept 22 = .ok (.iload_n 1, 1) := by decide +kernel
theorem dAcceptors_accept_23 : decode cAcceptors_accept 23 = .ok (.iload_n 2, 1) := by decide +kernel
theorem dAcceptors_accept_24 : decode cAcceptors_accept 24 = .ok (.iastore, 1) := by decide +kernel
theorem dAcceptors_accept_25 : decode cAcceptors_accept 25 = .ok (.aload_n 0, 1) := by decide +kernel
theorem dAcceptors_accept_26 : decode cAcceptors_accept 26 = .ok (.getfield 25, 3) := by decide +kernel
theorem dAcceptors_accept_29 : decode cAcceptors_accept 29 = .ok (.iload_n 1, 1) := by decide +kernel
theorem dAcceptors_accept_30 : decode cAcceptors_accept 30 = .ok (.iload_n 3, 1) := by decide +kernel
theorem dAcceptors_accept_31 : decode cAcceptors_accept 31 = .ok (.iastore, 1) := by decide +kernel
theorem dAcceptors_accept_32 : decode cAcceptors_accept 32 = .ok (.iconst 1, 1) := by decide +kernel
theorem dAcceptors_accept_33 : decode cAcceptors_accept 33 = .ok (.ireturn, 1) := by decide +kernel
set_option maxRecDepth 100000 in
set_option maxHeartbeats 4000000 in
theorem c_accept (l : Launch) (D : va_G) (cI cZ : ClassId) (q : Nat → Nat) (n : Nat) (S : Nat) (L : Nat) (f6 : Nat → Int32) (f7 : Nat → Int32) (f8 : Nat → Int32) (k : Nat) (b : Int32) (v : Int32) (hL20 : L ≤ 20) (hkL : k < L) : MI l D [(cI, .int), (cZ, .boolean)] yAcceptors_accept wsAcceptors_accept ({ frames := 1, cells := 0, slots := 0, locals := 22 }) [.ref (q 9), .int (nI k), .int b, .int v] (wAc q cI n S L f6 f7 f8) (fun r w => (r = nI 1 ∧ (f6 k ≤ b) ∧ w = (wAc q cI n S L (upd f6 k b) (upd f7 k b) (upd f8 k v))) ∨ (r = nI 0 ∧ (¬ f6 k ≤ b) ∧ w = (wAc q cI n S L f6 f7 f8))) := by
  intro sz
  refine Met.ofW (cc := cAcceptors_accept) (maxL := 4) (ret := (Option.some .boolean)) (by decide) rfl ?_
  intro p e s m args below meth c s₁ B hml hv
  obtain ⟨rfl, hsz, hP, hK, hD0, hZ⟩ := hv
  have hx := B.exec
  have hb := B.bytes
  have hr := B.returns
  have hts := atoms_spec (ws := wsAcceptors_accept) B.pre
  have hown : s.vm.findClass RAcceptors = some m.cls := findClass_of_methodNamed B.named
  have hlocks := B.notSynchronized
  subst hsz
  have hD := hD0.self (sz := s.heap.size)
  generalize hAe : va_A (wAc q cI n S L f6 f7 f8) s.heap.size = A at hD ⊢
  have hA : ∀ q : Nat, s.heap.size ≤ q → A q := fun q h => by rw [← hAe]; exact Or.inr h
  have hS : va_S A s.heap s.heap [] := va_S.rf
  have hP : va_P D vwCl (wAc q cI n S L f6 f7 f8) s.heap := hP
  have hl := lv_entry ([.ref (q 9), .int (nI k), .int b, .int v]) (n := 4) (Nat.le_of_ble_eq_true rfl)
  rw [lg_entry_eq]
  generalize (lg_sl ([.ref (q 9), .int (nI k), .int b, .int v]) ++ List.replicate (4 - (lg_sl ([.ref (q 9), .int (nI k), .int b, .int v])).length) Slot.unset).toArray = ls at hl ⊢
  have hl : lv_has ls 4 [(0, .ref (q 9)), (1, .int (nI k)), (2, .int b), (3, .int v)] := hl
  refine lv_aload_n hx hb dAcceptors_accept_0 rfl (lv_at hl 0 rfl) ?_
  refine lv_iload_n hx hb dAcceptors_accept_1 rfl (lv_at hl 1 rfl) ?_
  refine lv_iload_n hx hb dAcceptors_accept_2 rfl (lv_at hl 2 rfl) ?_
  have hPc := hP.sub (ws' := (wAc q cI n S L f6 f7 f8)) [0, 1, 2, 3] rfl
  have hDc := hD.sub (ws' := (wAc q cI n S L f6 f7 f8)) [0, 1, 2, 3] (by decide) rfl
  refine kx_i (va_runV (As := [.int (nI k), .int b]) (rest := []) ⟨hx, hb, hml, hown, hts⟩ ((c_wouldAccept l D cI cZ q n S L f6 f7 f8 k b (hL20) (hkL)) s.heap.size) (cwV 2 hts (gV wd260 wd221 wd222 wd5 wd223) rfl rfl rfl (by decide +kernel) ⟨Nat.le_of_ble_eq_true rfl, Nat.le_of_ble_eq_true rfl⟩) ⟨fb_PW, va_recv (q0 := 0) (ci := 3) hK hPc rfl rfl, pre_PW hK hPc hDc hZ⟩ rfl rfl hl.1 rfl (lv_room (Nat.le_of_ble_eq_true rfl)) dAcceptors_accept_3 ⟨Nat.zero_le _, Nat.zero_le _⟩) hP hD hS hA [0, 1, 2, 3] [] rfl rfl (by decide) (by decide) (fun r w1 H locs hw hP hD hS => ?_)
  rcases hw with ⟨rfl, h3, rfl⟩ | ⟨rfl, h3, rfl⟩
  · have hP : va_P D vwCl (wAc q cI n S L f6 f7 f8) H := hP
    have hD : va_D A (wAc q cI n S L f6 f7 f8) := hD
    refine lv_if_ne (tgt := 11) hx hb dAcceptors_accept_6 (by decide) (fun _ => ?_) (fun h9 => absurd h9 (by decide))
    refine lv_aload_n hx hb dAcceptors_accept_11 rfl (lv_at hl 0 rfl) ?_
    refine va_get (D := D) (ci := 3) (v := .ref (q 10)) (C := RAcceptors) (T := TAcceptors) (N := 5) hx hb hts (fun w h => mc (uAcceptors_in w h)) hown hK hP 0 rfl rfl 2 (by decide) (hts _ (mc wd74)) (fun _ h9 => h9) rfl dAcceptors_accept_12 ?_
    refine lv_iload_n hx hb dAcceptors_accept_15 rfl (lv_at hl 1 rfl) ?_
    refine lv_iload_n hx hb dAcceptors_accept_16 rfl (lv_at hl 2 rfl) ?_
    refine ka_st (f' := upd f6 k b) hx hb hK hP hD hS 1 0 rfl rfl (by omega) (by omega) rfl dAcceptors_accept_17 (fun H locs hP hD hS => ?_)
    have hP : va_P D vwCl (wAc q cI n S L (upd f6 k b) f7 f8) H := hP
    have hD : va_D A (wAc q cI n S L (upd f6 k b) f7 f8) := hD
    refine lv_aload_n hx hb dAcceptors_accept_18 rfl (lv_at hl 0 rfl) ?_
    refine va_get (D := D) (ci := 3) (v := .ref (q 11)) (C := RAcceptors) (T := TAcceptors) (N := 5) hx hb hts (fun w h => mc (uAcceptors_in w h)) hown hK hP 0 rfl rfl 3 (by decide) (hts _ (mc wd75)) (fun _ h9 => h9) rfl dAcceptors_accept_19 ?_
    refine lv_iload_n hx hb dAcceptors_accept_22 rfl (lv_at hl 1 rfl) ?_
    refine lv_iload_n hx hb dAcceptors_accept_23 rfl (lv_at hl 2 rfl) ?_
    refine ka_st (f' := upd f7 k b) hx hb hK hP hD hS 2 0 rfl rfl (by omega) (by omega) rfl dAcceptors_accept_24 (fun H locs hP hD hS => ?_)
    have hP : va_P D vwCl (wAc q cI n S L (upd f6 k b) (upd f7 k b) f8) H := hP
    have hD : va_D A (wAc q cI n S L (upd f6 k b) (upd f7 k b) f8) := hD
    refine lv_aload_n hx hb dAcceptors_accept_25 rfl (lv_at hl 0 rfl) ?_
    refine va_get (D := D) (ci := 3) (v := .ref (q 12)) (C := RAcceptors) (T := TAcceptors) (N := 5) hx hb hts (fun w h => mc (uAcceptors_in w h)) hown hK hP 0 rfl rfl 4 (by decide) (hts _ (mc wd76)) (fun _ h9 => h9) rfl dAcceptors_accept_26 ?_
    refine lv_iload_n hx hb dAcceptors_accept_29 rfl (lv_at hl 1 rfl) ?_
    refine lv_iload_n hx hb dAcceptors_accept_30 rfl (lv_at hl 3 rfl) ?_
    refine ka_st (f' := upd f8 k v) hx hb hK hP hD hS 3 0 rfl rfl (by omega) (by omega) rfl dAcceptors_accept_31 (fun H locs hP hD hS => ?_)
    have hP : va_P D vwCl (wAc q cI n S L (upd f6 k b) (upd f7 k b) (upd f8 k v)) H := hP
    have hD : va_D A (wAc q cI n S L (upd f6 k b) (upd f7 k b) (upd f8 k v)) := hD
    refine lv_iconst (v := nI 1) hx hb dAcceptors_accept_32 (by decide) ?_
    exact W.zret (v := nI 1) (ty := .boolean) hx hb hr (by decide) (fun t9 ht9 hW9 => ⟨⟨nI 1, (wAc q cI n S L (upd f6 k b) (upd f7 k b) (upd f8 k v)), rfl, Or.inl ⟨rfl, h3, rfl⟩, by rw [ht9]; exact hP, va_K.moved hW9.alike hK, hD⟩, hS.F ht9⟩) hS.2.2 dAcceptors_accept_33
  · have hP : va_P D vwCl (wAc q cI n S L f6 f7 f8) H := hP
    have hD : va_D A (wAc q cI n S L f6 f7 f8) := hD
    refine lv_if_ne (tgt := 11) hx hb dAcceptors_accept_6 (by decide) (fun h9 => absurd (by decide) h9) (fun _ => ?_)
    refine lv_iconst (v := nI 0) hx hb dAcceptors_accept_9 (by decide) ?_
    exact W.zret (v := nI 0) (ty := .boolean) hx hb hr (by decide) (fun t9 ht9 hW9 => ⟨⟨nI 0, (wAc q cI n S L f6 f7 f8), rfl, Or.inr ⟨rfl, h3, rfl⟩, by rw [ht9]; exact hP, va_K.moved hW9.alike hK, hD⟩, hS.F ht9⟩) hS.2.2 dAcceptors_accept_10
theorem dAcceptors_acceptorsOf_0 : decode cAcceptors_acceptorsOf 0 = .ok (.iconst 0, 1) := by decide +kernel
theorem dAcceptors_acceptorsOf_1 : decode cAcceptors_acceptorsOf 1 = .ok (.istore_n 3, 1) := by decide +kernel
theorem dAcceptors_acceptorsOf_2 : decode cAcceptors_acceptorsOf 2 = .ok (.iconst 0, 1) := by decide +kernel
theorem dAcceptors_acceptorsOf_3 : decode cAcceptors_acceptorsOf 3 = .ok (.istore 4, 2) := by decide +kernel
theorem dAcceptors_acceptorsOf_5 : decode cAcceptors_acceptorsOf 5 = .ok (.iload 4, 2) := by decide +kernel
theorem dAcceptors_acceptorsOf_7 : decode cAcceptors_acceptorsOf 7 = .ok (.aload_n 0, 1) := by decide +kernel
theorem dAcceptors_acceptorsOf_8 : decode cAcceptors_acceptorsOf 8 = .ok (.getfield 9, 3) := by decide +kernel
theorem dAcceptors_acceptorsOf_11 : decode cAcceptors_acceptorsOf 11 = .ok (.if_icmp .ge 30, 3) := by decide +kernel
theorem dAcceptors_acceptorsOf_14 : decode cAcceptors_acceptorsOf 14 = .ok (.aload_n 0, 1) := by decide +kernel
theorem dAcceptors_acceptorsOf_15 : decode cAcceptors_acceptorsOf 15 = .ok (.getfield 22, 3) := by decide +kernel
theorem dAcceptors_acceptorsOf_18 : decode cAcceptors_acceptorsOf 18 = .ok (.iload 4, 2) := by decide +kernel
theorem dAcceptors_acceptorsOf_20 : decode cAcceptors_acceptorsOf 20 = .ok (.aload_n 0, 1) := by decide +kernel
theorem dAcceptors_acceptorsOf_21 : decode cAcceptors_acceptorsOf 21 = .ok (.getfield 15, 3) := by decide +kernel
theorem dAcceptors_acceptorsOf_24 : decode cAcceptors_acceptorsOf 24 = .ok (.imul, 1) := by decide +kernel
theorem dAcceptors_acceptorsOf_25 : decode cAcceptors_acceptorsOf 25 = .ok (.iload_n 1, 1) := by decide +kernel
theorem dAcceptors_acceptorsOf_26 : decode cAcceptors_acceptorsOf 26 = .ok (.iadd, 1) := by decide +kernel
theorem dAcceptors_acceptorsOf_27 : decode cAcceptors_acceptorsOf 27 = .ok (.iaload, 1) := by decide +kernel
theorem dAcceptors_acceptorsOf_28 : decode cAcceptors_acceptorsOf 28 = .ok (.iload_n 2, 1) := by decide +kernel
theorem dAcceptors_acceptorsOf_29 : decode cAcceptors_acceptorsOf 29 = .ok (.if_icmp .ne 6, 3) := by decide +kernel
theorem dAcceptors_acceptorsOf_32 : decode cAcceptors_acceptorsOf 32 = .ok (.iinc 3  1, 3) := by decide +kernel
theorem dAcceptors_acceptorsOf_35 : decode cAcceptors_acceptorsOf 35 = .ok (.iinc 4  1, 3) := by decide +kernel
theorem dAcceptors_acceptorsOf_38 : decode cAcceptors_acceptorsOf 38 = .ok (.goto (-33), 3) := by decide +kernel
theorem dAcceptors_acceptorsOf_41 : decode cAcceptors_acceptorsOf 41 = .ok (.iload_n 3, 1) := by decide +kernel
theorem dAcceptors_acceptorsOf_42 : decode cAcceptors_acceptorsOf 42 = .ok (.ireturn, 1) := by decide +kernel
set_option maxRecDepth 100000 in
set_option maxHeartbeats 4000000 in
theorem c_acceptorsOf (l : Launch) (D : va_G) (cI cZ : ClassId) (q : Nat → Nat) (n : Nat) (S : Nat) (L : Nat) (f6 : Nat → Int32) (f7 : Nat → Int32) (f8 : Nat → Int32) (sx : Nat) (b : Int32) (hL20 : L ≤ 20) (hn5 : n ≤ 5) (hS4 : S ≤ 4) (hsS : sx < S) (hLx : ∀ a t : Nat, a < n → t < S → a * S + t < L) : MI l D [(cI, .int), (cZ, .boolean)] yAcceptors_acceptorsOf wsAcceptors_acceptorsOf ({ frames := 0, cells := 0, slots := 0, locals := 0 }) [.ref (q 9), .int (nI sx), .int b] (wAc q cI n S L f6 f7 f8) (fun r w => r = nI (cntE (fun a => f7 (a * S + sx)) b n) ∧ w = (wAc q cI n S L f6 f7 f8)) := by
  intro sz
  refine Met.ofW (cc := cAcceptors_acceptorsOf) (maxL := 5) (ret := (Option.some .int)) (by decide) rfl ?_
  intro p e s m args below meth c s₁ B hml hv
  obtain ⟨rfl, hsz, hP, hK, hD0, hZ⟩ := hv
  have hx := B.exec
  have hb := B.bytes
  have hr := B.returns
  have hts := atoms_spec (ws := wsAcceptors_acceptorsOf) B.pre
  have hown : s.vm.findClass RAcceptors = some m.cls := findClass_of_methodNamed B.named
  have hlocks := B.notSynchronized
  subst hsz
  have hD := hD0.self (sz := s.heap.size)
  generalize hAe : va_A (wAc q cI n S L f6 f7 f8) s.heap.size = A at hD ⊢
  have hA : ∀ q : Nat, s.heap.size ≤ q → A q := fun q h => by rw [← hAe]; exact Or.inr h
  have hS : va_S A s.heap s.heap [] := va_S.rf
  have hP : va_P D vwCl (wAc q cI n S L f6 f7 f8) s.heap := hP
  have hl := lv_entry ([.ref (q 9), .int (nI sx), .int b]) (n := 5) (Nat.le_of_ble_eq_true rfl)
  rw [lg_entry_eq]
  generalize (lg_sl ([.ref (q 9), .int (nI sx), .int b]) ++ List.replicate (5 - (lg_sl ([.ref (q 9), .int (nI sx), .int b])).length) Slot.unset).toArray = ls at hl ⊢
  have hl : lv_has ls 5 [(0, .ref (q 9)), (1, .int (nI sx)), (2, .int b)] := hl
  refine lv_iconst (v := nI 0) hx hb dAcceptors_acceptorsOf_0 (by decide) ?_
  refine lv_istore_n hx hb dAcceptors_acceptorsOf_1 rfl hl (by decide) rfl (fun ls hl => ?_)
  have hl : lv_has ls 5 [(3, .int (nI 0)), (0, .ref (q 9)), (1, .int (nI sx)), (2, .int b)] := hl
  refine lv_iconst (v := nI 0) hx hb dAcceptors_acceptorsOf_2 (by decide) ?_
  refine lv_istore hx hb dAcceptors_acceptorsOf_3 hl (by decide) rfl (fun ls hl => ?_)
  have hl : lv_has ls 5 [(4, .int (nI 0)), (3, .int (nI 0)), (0, .ref (q 9)), (1, .int (nI sx)), (2, .int b)] := hl
  have loop5 : ∀ (d5 i : Nat) (ls : Array Slot) (H : Heap) (locs : List Loc), i + d5 = n → lv_has ls 5 [(4, .int (nI i)), (3, .int (nI (cntE (fun a => f7 (a * S + sx)) b i))), (0, .ref (q 9)), (1, .int (nI sx)), (2, .int b)] → va_P D vwCl (wAc q cI n S L f6 f7 f8) H → va_D A (wAc q cI n S L f6 f7 f8) → va_S A s.heap H locs → W p l e (headSpec wsAcceptors_acceptorsOf { frames := 0, cells := 0, slots := 0, locals := 0 }).room s m [.ref (q 9), .int (nI sx), .int b].toArray below meth c H locs 0 0 (MQ below (va_Qi (fun r w => r = nI (cntE (fun a => f7 (a * S + sx)) b n) ∧ w = (wAc q cI n S L f6 f7 f8)) (QW D [(cI, .int), (cZ, .boolean)] A) A) [.ref (q 9), .int (nI sx), .int b].toArray s 0 0 A) (F0 m 5 ls []) := by
    intro d5
    induction d5 with
    | zero =>
      intro i ls H locs hid5  hl hP hD hS
      refine lv_iload hx hb dAcceptors_acceptorsOf_5 (lv_at hl 0 rfl) ?_
      refine lv_aload_n hx hb dAcceptors_acceptorsOf_7 rfl (lv_at hl 2 rfl) ?_
      refine va_get (D := D) (ci := 3) (v := .int (nI n)) (C := RAcceptors) (T := TAcceptors) (N := 5) hx hb hts (fun w h => mc (uAcceptors_in w h)) hown hK hP 0 rfl rfl 0 (by decide) (hts _ (mc wd72)) (fun _ h9 => h9) rfl dAcceptors_acceptorsOf_8 ?_
      refine lv_icmp_ge (tgt := 41) hx hb dAcceptors_acceptorsOf_11 (by decide) (fun _ => ?_) (fun h9 => absurd (nI_le (by omega) (by omega)) h9)
      refine lv_iload_n hx hb dAcceptors_acceptorsOf_41 rfl (lv_at hl 1 rfl) ?_
      have hin : n = i := by omega
      subst hin
      exact W.iret (v := nI (cntE (fun a => f7 (a * S + sx)) b n)) hx hb hr (fun t9 ht9 hW9 => ⟨⟨nI (cntE (fun a => f7 (a * S + sx)) b n), (wAc q cI n S L f6 f7 f8), rfl, ⟨rfl, rfl⟩, by rw [ht9]; exact hP, va_K.moved hW9.alike hK, hD⟩, hS.F ht9⟩) hS.2.2 dAcceptors_acceptorsOf_42
    | succ d5 ih5 =>
      intro i ls H locs hid5  hl hP hD hS
      refine lv_iload hx hb dAcceptors_acceptorsOf_5 (lv_at hl 0 rfl) ?_
      refine lv_aload_n hx hb dAcceptors_acceptorsOf_7 rfl (lv_at hl 2 rfl) ?_
      refine va_get (D := D) (ci := 3) (v := .int (nI n)) (C := RAcceptors) (T := TAcceptors) (N := 5) hx hb hts (fun w h => mc (uAcceptors_in w h)) hown hK hP 0 rfl rfl 0 (by decide) (hts _ (mc wd72)) (fun _ h9 => h9) rfl dAcceptors_acceptorsOf_8 ?_
      refine lv_icmp_ge (tgt := 41) hx hb dAcceptors_acceptorsOf_11 (by decide) (fun h9 => absurd h9 (nI_ge (by omega) (by omega))) (fun _ => ?_)
      refine lv_aload_n hx hb dAcceptors_acceptorsOf_14 rfl (lv_at hl 2 rfl) ?_
      refine va_get (D := D) (ci := 3) (v := .ref (q 11)) (C := RAcceptors) (T := TAcceptors) (N := 5) hx hb hts (fun w h => mc (uAcceptors_in w h)) hown hK hP 0 rfl rfl 3 (by decide) (hts _ (mc wd75)) (fun _ h9 => h9) rfl dAcceptors_acceptorsOf_15 ?_
      refine lv_iload hx hb dAcceptors_acceptorsOf_18 (lv_at hl 0 rfl) ?_
      refine lv_aload_n hx hb dAcceptors_acceptorsOf_20 rfl (lv_at hl 2 rfl) ?_
      refine va_get (D := D) (ci := 3) (v := .int (nI S)) (C := RAcceptors) (T := TAcceptors) (N := 5) hx hb hts (fun w h => mc (uAcceptors_in w h)) hown hK hP 0 rfl rfl 1 (by decide) (hts _ (mc wd73)) (fun _ h9 => h9) rfl dAcceptors_acceptorsOf_21 ?_
      refine lv_imul hx hb dAcceptors_acceptorsOf_24 ?_
      refine lv_topi (nm_r (pk_mul _ _) ?_)
      refine lv_iload_n hx hb dAcceptors_acceptorsOf_25 rfl (lv_at hl 3 rfl) ?_
      refine lv_iadd hx hb dAcceptors_acceptorsOf_26 ?_
      refine lv_topi (nm_r (nI_add _ _) ?_)
      refine ka_ld (v := f7 (i * S + sx)) hx hb hK hP 2 0 rfl rfl (hLx i sx (by omega) hsS) (by omega) rfl dAcceptors_acceptorsOf_27 ?_
      refine lv_iload_n hx hb dAcceptors_acceptorsOf_28 rfl (lv_at hl 4 rfl) ?_
      refine lv_icmp_ne (tgt := 35) hx hb dAcceptors_acceptorsOf_29 (by decide) (fun c29 => ?_) (fun c29 => ?_)
      · have hz : nI (cntE (fun a => f7 (a * S + sx)) b i) = nI (cntE (fun a => f7 (a * S + sx)) b (i + 1)) := by show _ = nI (cntE _ _ _ + _); rw [if_neg c29]; rfl
        rw [hz] at hl
        refine lv_iinc (k := 0) (v := nI (i + 1)) hx hb dAcceptors_acceptorsOf_35 hl rfl ((nI_succ _).symm) (by decide) rfl (fun ls hl => ?_)
        have hl : lv_has ls 5 [(4, .int (nI (i + 1))), (3, .int (nI (cntE (fun a => f7 (a * S + sx)) b (i + 1)))), (0, .ref (q 9)), (1, .int (nI sx)), (2, .int b)] := hl
        refine lv_goto (tgt := 5) hx hb dAcceptors_acceptorsOf_38 (by decide) ?_
        exact ih5 (i + 1) ls H locs (by omega) hl hP hD hS
      · refine lv_iinc (k := 1) (v := nI (cntE (fun a => f7 (a * S + sx)) b (i + 1))) hx hb dAcceptors_acceptorsOf_32 hl rfl (by show nI _ + 1 = nI (cntE _ _ _ + _); rw [if_pos c29, nI_1]) (by decide) rfl (fun ls hl => ?_)
        have hl : lv_has ls 5 [(3, .int (nI (cntE (fun a => f7 (a * S + sx)) b (i + 1)))), (4, .int (nI i)), (0, .ref (q 9)), (1, .int (nI sx)), (2, .int b)] := hl
        refine lv_iinc (k := 1) (v := nI (i + 1)) hx hb dAcceptors_acceptorsOf_35 hl rfl ((nI_succ _).symm) (by decide) rfl (fun ls hl => ?_)
        have hl : lv_has ls 5 [(4, .int (nI (i + 1))), (3, .int (nI (cntE (fun a => f7 (a * S + sx)) b (i + 1)))), (0, .ref (q 9)), (1, .int (nI sx)), (2, .int b)] := hl
        refine lv_goto (tgt := 5) hx hb dAcceptors_acceptorsOf_38 (by decide) ?_
        exact ih5 (i + 1) ls H locs (by omega) hl hP hD hS
  exact loop5 n 0 ls s.heap [] (by omega) hl hP hD hS
theorem dAcceptors_majorityValue_0 : decode cAcceptors_majorityValue 0 = .ok (.iconst 0, 1) := by decide +kernel
theorem dAcceptors_majorityValue_1 : decode cAcceptors_majorityValue 1 = .ok (.istore_n 2, 1) := by decide +kernel
theorem dAcceptors_majorityValue_2 : decode cAcceptors_majorityValue 2 = .ok (.iload_n 2, 1) := by decide +kernel
theorem dAcceptors_majorityValue_3 : decode cAcceptors_majorityValue 3 = .ok (.aload_n 0, 1) := by decide +kernel
theorem dAcceptors_majorityValue_4 : decode cAcceptors_majorityValue 4 = .ok (.getfield 9, 3) := by decide +kernel
theorem dAcceptors_majorityValue_7 : decode cAcceptors_majorityValue 7 = .ok (.if_icmp .ge 46, 3) := by decide +kernel
theorem dAcceptors_majorityValue_10 : decode cAcceptors_majorityValue 10 = .ok (.iload_n 2, 1) := by decide +kernel
theorem dAcceptors_majorityValue_11 : decode cAcceptors_majorityValue 11 = .ok (.aload_n 0, 1) := by decide +kernel
theorem dAcceptors_majorityValue_12 : decode cAcceptors_majorityValue 12 = .ok (.getfield 15, 3) := by decide +kernel
theorem dAcceptors_majorityValue_15 : decode cAcceptors_majorityValue 15 = .ok (.imul, 1) := by decide +kernel
theorem dAcceptors_majorityValue_16 : decode cAcceptors_majorityValue 16 = .ok (.iload_n 1, 1) := by decide +kernel
theorem dAcceptors_majorityValue_17 : decode cAcceptors_majorityValue 17 = .ok (.iadd, 1) := by decide +kernel
theorem dAcceptors_majorityValue_18 : decode cAcceptors_majorityValue 18 = .ok (.istore_n 3, 1) := by decide +kernel
theorem dAcceptors_majorityValue_19 : decode cAcceptors_majorityValue 19 = .ok (.aload_n 0, 1) := by decide +kernel
theorem dAcceptors_majorityValue_20 : decode cAcceptors_majorityValue 20 = .ok (.iload_n 1, 1) := by decide +kernel
theorem dAcceptors_majorityValue_21 : decode cAcceptors_majorityValue 21 = .ok (.aload_n 0, 1) := by decide +kernel
theorem dAcceptors_majorityValue_22 : decode cAcceptors_majorityValue 22 = .ok (.getfield 22, 3) := by decide +kernel
theorem dAcceptors_majorityValue_25 : decode cAcceptors_majorityValue 25 = .ok (.iload_n 3, 1) := by decide +kernel
theorem dAcceptors_majorityValue_26 : decode cAcceptors_majorityValue 26 = .ok (.iaload, 1) := by decide +kernel
theorem dAcceptors_majorityValue_27 : decode cAcceptors_majorityValue 27 = .ok (.invokevirtual 38, 3) := by decide +kernel
theorem dAcceptors_majorityValue_30 : decode cAcceptors_majorityValue 30 = .ok (.aload_n 0, 1) := by decide +kernel
theorem dAcceptors_majorityValue_31 : decode cAcceptors_majorityValue 31 = .ok (.getfield 9, 3) := by decide +kernel
theorem dAcceptors_majorityValue_34 : decode cAcceptors_majorityValue 34 = .ok (.invokestatic 42, 3) := by decide +kernel
theorem dAcceptors_majorityValue_37 : decode cAcceptors_majorityValue 37 = .ok (.ifCond .eq 10, 3) := by decide +kernel
theorem dAcceptors_majorityValue_40 : decode cAcceptors_majorityValue 40 = .ok (.aload_n 0, 1) := by decide +kernel
theorem dAcceptors_majorityValue_41 : decode cAcceptors_majorityValue 41 = .ok (.getfield 25, 3) := by decide +kernel
theorem dAcceptors_majorityValue_44 : decode cAcceptors_majorityValue 44 = .ok (.iload_n 3, 1) := by decide +kernel
theorem dAcceptors_majorityValue_45 : decode cAcceptors_majorityValue 45 = .ok (.iaload, 1) := by decide +kernel
theorem dAcceptors_majorityValue_46 : decode cAcceptors_majorityValue 46 = .ok (.ireturn, 1) := by decide +kernel
theorem dAcceptors_majorityValue_47 : decode cAcceptors_majorityValue 47 = .ok (.iinc 2  1, 3) := by decide +kernel
theorem dAcceptors_majorityValue_50 : decode cAcceptors_majorityValue 50 = .ok (.goto (-48), 3) := by decide +kernel
theorem dAcceptors_majorityValue_53 : decode cAcceptors_majorityValue 53 = .ok (.iconst 0, 1) := by decide +kernel
theorem dAcceptors_majorityValue_54 : decode cAcceptors_majorityValue 54 = .ok (.ireturn, 1) := by decide +kernel
set_option maxRecDepth 100000 in
set_option maxHeartbeats 4000000 in
theorem c_majorityValue (l : Launch) (D : va_G) (cI cZ : ClassId) (q : Nat → Nat) (n : Nat) (S : Nat) (L : Nat) (f6 : Nat → Int32) (f7 : Nat → Int32) (f8 : Nat → Int32) (sx : Nat) (hL20 : L ≤ 20) (hn5 : n ≤ 5) (hS4 : S ≤ 4) (hsS : sx < S) (hLx : ∀ a t : Nat, a < n → t < S → a * S + t < L) : MI l D [(cI, .int), (cZ, .boolean)] yAcceptors_majorityValue wsAcceptors_majorityValue ({ frames := 1, cells := 0, slots := 0, locals := 24 }) [.ref (q 9), .int (nI sx)] (wAc q cI n S L f6 f7 f8) (fun r w => r = cho n (fun a => f7 (a * S + sx)) (fun a => f8 (a * S + sx)) n 0 ∧ w = (wAc q cI n S L f6 f7 f8)) := by
  intro sz
  refine Met.ofW (cc := cAcceptors_majorityValue) (maxL := 4) (ret := (Option.some .int)) (by decide) rfl ?_
  intro p e s m args below meth c s₁ B hml hv
  obtain ⟨rfl, hsz, hP, hK, hD0, hZ⟩ := hv
  have hx := B.exec
  have hb := B.bytes
  have hr := B.returns
  have hts := atoms_spec (ws := wsAcceptors_majorityValue) B.pre
  have hown : s.vm.findClass RAcceptors = some m.cls := findClass_of_methodNamed B.named
  have hlocks := B.notSynchronized
  subst hsz
  have hD := hD0.self (sz := s.heap.size)
  generalize hAe : va_A (wAc q cI n S L f6 f7 f8) s.heap.size = A at hD ⊢
  have hA : ∀ q : Nat, s.heap.size ≤ q → A q := fun q h => by rw [← hAe]; exact Or.inr h
  have hS : va_S A s.heap s.heap [] := va_S.rf
  have hP : va_P D vwCl (wAc q cI n S L f6 f7 f8) s.heap := hP
  have hl := lv_entry ([.ref (q 9), .int (nI sx)]) (n := 4) (Nat.le_of_ble_eq_true rfl)
  rw [lg_entry_eq]
  generalize (lg_sl ([.ref (q 9), .int (nI sx)]) ++ List.replicate (4 - (lg_sl ([.ref (q 9), .int (nI sx)])).length) Slot.unset).toArray = ls at hl ⊢
  have hl : lv_has ls 4 [(0, .ref (q 9)), (1, .int (nI sx))] := hl
  refine lv_iconst (v := nI 0) hx hb dAcceptors_majorityValue_0 (by decide) ?_
  refine lv_istore_n hx hb dAcceptors_majorityValue_1 rfl hl (by decide) rfl (fun ls hl => ?_)
  have hl : lv_has ls 4 [(2, .int (nI 0)), (0, .ref (q 9)), (1, .int (nI sx))] := hl
  have loop2 : ∀ (d2 i : Nat) (ls : Array Slot) (H : Heap) (locs : List Loc), i + d2 = n → cho n (fun a => f7 (a * S + sx)) (fun a => f8 (a * S + sx)) d2 i = cho n (fun a => f7 (a * S + sx)) (fun a => f8 (a * S + sx)) n 0 → lv_has ls 4 [(2, .int (nI i)), (0, .ref (q 9)), (1, .int (nI sx))] → va_P D vwCl (wAc q cI n S L f6 f7 f8) H → va_D A (wAc q cI n S L f6 f7 f8) → va_S A s.heap H locs → W p l e (headSpec wsAcceptors_majorityValue { frames := 1, cells := 0, slots := 0, locals := 24 }).room s m [.ref (q 9), .int (nI sx)].toArray below meth c H locs 0 0 (MQ below (va_Qi (fun r w => r = cho n (fun a => f7 (a * S + sx)) (fun a => f8 (a * S + sx)) n 0 ∧ w = (wAc q cI n S L f6 f7 f8)) (QW D [(cI, .int), (cZ, .boolean)] A) A) [.ref (q 9), .int (nI sx)].toArray s 0 0 A) (F0 m 2 ls []) := by
    intro d2
    induction d2 with
    | zero =>
      intro i ls H locs hid2 hC hl hP hD hS
      refine lv_iload_n hx hb dAcceptors_majorityValue_2 rfl (lv_at hl 0 rfl) ?_
      refine lv_aload_n hx hb dAcceptors_majorityValue_3 rfl (lv_at hl 1 rfl) ?_
      refine va_get (D := D) (ci := 3) (v := .int (nI n)) (C := RAcceptors) (T := TAcceptors) (N := 5) hx hb hts (fun w h => mc (uAcceptors_in w h)) hown hK hP 0 rfl rfl 0 (by decide) (hts _ (mc wd72)) (fun _ h9 => h9) rfl dAcceptors_majorityValue_4 ?_
      refine lv_icmp_ge (tgt := 53) hx hb dAcceptors_majorityValue_7 (by decide) (fun _ => ?_) (fun h9 => absurd (nI_le (by omega) (by omega)) h9)
      refine lv_iconst (v := nI 0) hx hb dAcceptors_majorityValue_53 (by decide) ?_
      have hCi : nI 0 = cho n (fun a => f7 (a * S + sx)) (fun a => f8 (a * S + sx)) n 0 := by rw [← hC]; rfl
      rw [hCi]
      exact W.iret (v := cho n (fun a => f7 (a * S + sx)) (fun a => f8 (a * S + sx)) n 0) hx hb hr (fun t9 ht9 hW9 => ⟨⟨cho n (fun a => f7 (a * S + sx)) (fun a => f8 (a * S + sx)) n 0, (wAc q cI n S L f6 f7 f8), rfl, ⟨rfl, rfl⟩, by rw [ht9]; exact hP, va_K.moved hW9.alike hK, hD⟩, hS.F ht9⟩) hS.2.2 dAcceptors_majorityValue_54
    | succ d2 ih2 =>
      intro i ls H locs hid2 hC hl hP hD hS
      refine lv_iload_n hx hb dAcceptors_majorityValue_2 rfl (lv_at hl 0 rfl) ?_
      refine lv_aload_n hx hb dAcceptors_majorityValue_3 rfl (lv_at hl 1 rfl) ?_
      refine va_get (D := D) (ci := 3) (v := .int (nI n)) (C := RAcceptors) (T := TAcceptors) (N := 5) hx hb hts (fun w h => mc (uAcceptors_in w h)) hown hK hP 0 rfl rfl 0 (by decide) (hts _ (mc wd72)) (fun _ h9 => h9) rfl dAcceptors_majorityValue_4 ?_
      refine lv_icmp_ge (tgt := 53) hx hb dAcceptors_majorityValue_7 (by decide) (fun h9 => absurd h9 (nI_ge (by omega) (by omega))) (fun _ => ?_)
      refine lv_iload_n hx hb dAcceptors_majorityValue_10 rfl (lv_at hl 0 rfl) ?_
      refine lv_aload_n hx hb dAcceptors_majorityValue_11 rfl (lv_at hl 1 rfl) ?_
      refine va_get (D := D) (ci := 3) (v := .int (nI S)) (C := RAcceptors) (T := TAcceptors) (N := 5) hx hb hts (fun w h => mc (uAcceptors_in w h)) hown hK hP 0 rfl rfl 1 (by decide) (hts _ (mc wd73)) (fun _ h9 => h9) rfl dAcceptors_majorityValue_12 ?_
      refine lv_imul hx hb dAcceptors_majorityValue_15 ?_
      refine lv_topi (nm_r (pk_mul _ _) ?_)
      refine lv_iload_n hx hb dAcceptors_majorityValue_16 rfl (lv_at hl 2 rfl) ?_
      refine lv_iadd hx hb dAcceptors_majorityValue_17 ?_
      refine lv_topi (nm_r (nI_add _ _) ?_)
      refine lv_istore_n hx hb dAcceptors_majorityValue_18 rfl hl (by decide) rfl (fun ls hl => ?_)
      have hl : lv_has ls 4 [(3, .int (nI (i * S + sx))), (2, .int (nI i)), (0, .ref (q 9)), (1, .int (nI sx))] := hl
      refine lv_aload_n hx hb dAcceptors_majorityValue_19 rfl (lv_at hl 2 rfl) ?_
      refine lv_iload_n hx hb dAcceptors_majorityValue_20 rfl (lv_at hl 3 rfl) ?_
      refine lv_aload_n hx hb dAcceptors_majorityValue_21 rfl (lv_at hl 2 rfl) ?_
      refine va_get (D := D) (ci := 3) (v := .ref (q 11)) (C := RAcceptors) (T := TAcceptors) (N := 5) hx hb hts (fun w h => mc (uAcceptors_in w h)) hown hK hP 0 rfl rfl 3 (by decide) (hts _ (mc wd75)) (fun _ h9 => h9) rfl dAcceptors_majorityValue_22 ?_
      refine lv_iload_n hx hb dAcceptors_majorityValue_25 rfl (lv_at hl 0 rfl) ?_
      refine ka_ld (v := f7 (i * S + sx)) hx hb hK hP 2 0 rfl rfl (hLx i sx (by omega) hsS) (by omega) rfl dAcceptors_majorityValue_26 ?_
      have hPc := hP.sub (ws' := (wAc q cI n S L f6 f7 f8)) [0, 1, 2, 3] rfl
      have hDc := hD.sub (ws' := (wAc q cI n S L f6 f7 f8)) [0, 1, 2, 3] (by decide) rfl
      refine kx_i (va_runV (As := [.int (nI sx), .int (f7 (i * S + sx))]) (rest := []) ⟨hx, hb, hml, hown, hts⟩ ((c_acceptorsOf l D cI cZ q n S L f6 f7 f8 sx (f7 (i * S + sx)) (hL20) (hn5) (hS4) (hsS) (hLx)) H.size) (cwV 2 hts (gV wd371 wd373 sl_Acceptors_acceptorsOf wd5 wd374) rfl rfl rfl (by decide +kernel) ⟨Nat.le_of_ble_eq_true rfl, Nat.le_of_ble_eq_true rfl⟩) ⟨fb_PW, va_recv (q0 := 0) (ci := 3) hK hPc rfl rfl, pre_PW hK hPc hDc hZ⟩ rfl rfl hl.1 rfl (lv_room (Nat.le_of_ble_eq_true rfl)) dAcceptors_majorityValue_27 ⟨Nat.zero_le _, Nat.zero_le _⟩) hP hD hS hA [0, 1, 2, 3] [] rfl rfl (by decide) (by decide) (fun r w1 H locs hw hP hD hS => ?_)
      obtain ⟨rfl, rfl⟩ := hw
      have hP : va_P D vwCl (wAc q cI n S L f6 f7 f8) H := hP
      have hD : va_D A (wAc q cI n S L f6 f7 f8) := hD
      refine lv_aload_n hx hb dAcceptors_majorityValue_30 rfl (lv_at hl 2 rfl) ?_
      refine va_get (D := D) (ci := 3) (v := .int (nI n)) (C := RAcceptors) (T := TAcceptors) (N := 5) hx hb hts (fun w h => mc (uAcceptors_in w h)) hown hK hP 0 rfl rfl 0 (by decide) (hts _ (mc wd72)) (fun _ h9 => h9) rfl dAcceptors_majorityValue_31 ?_
      have hPc := hP.sub (ws' := ([] : va_W)) [] rfl
      have hDc := hD.sub (ws' := ([] : va_W)) [] (by decide) rfl
      refine kx_i (va_runSN (As := [.int (nI (cntE (fun a => f7 (a * S + sx)) (f7 (i * S + sx)) n)), .int (nI n)]) (rest := []) ⟨hx, hb, hml, hown, hts⟩ ((c_isMajority l D cI cZ (cntE (fun a => f7 (a * S + sx)) (f7 (i * S + sx)) n) n (Nat.le_trans (cntE_le _ _ _) hn5) (hn5)) H.size) ⟨va_cnB 2 hts (gC wd219) rfl rfl rfl (hZ.n4) (hts _ (mc wd1)) (by decide +kernel) ⟨Nat.le_of_ble_eq_true rfl, Nat.le_of_ble_eq_true rfl⟩, hts _ (mc wd218), trivial⟩ ⟨fb_PW, pre_PW hK hPc hDc hZ⟩ rfl rfl hl.1 rfl (lv_room (Nat.le_of_ble_eq_true rfl)) dAcceptors_majorityValue_34 ⟨Nat.zero_le _, Nat.zero_le _⟩) hP hD hS hA [] [0, 1, 2, 3] rfl rfl (by decide) (by decide) (fun r w1 H locs hw hP hD hS => ?_)
      rcases hw with ⟨rfl, h34, rfl⟩ | ⟨rfl, h34, rfl⟩
      · have hP : va_P D vwCl (wAc q cI n S L f6 f7 f8) H := hP
        have hD : va_D A (wAc q cI n S L f6 f7 f8) := hD
        refine lv_if_eq (tgt := 47) hx hb dAcceptors_majorityValue_37 (by decide) (fun h9 => absurd h9 (by decide)) (fun _ => ?_)
        refine lv_aload_n hx hb dAcceptors_majorityValue_40 rfl (lv_at hl 2 rfl) ?_
        refine va_get (D := D) (ci := 3) (v := .ref (q 12)) (C := RAcceptors) (T := TAcceptors) (N := 5) hx hb hts (fun w h => mc (uAcceptors_in w h)) hown hK hP 0 rfl rfl 4 (by decide) (hts _ (mc wd76)) (fun _ h9 => h9) rfl dAcceptors_majorityValue_41 ?_
        refine lv_iload_n hx hb dAcceptors_majorityValue_44 rfl (lv_at hl 0 rfl) ?_
        refine ka_ld (v := f8 (i * S + sx)) hx hb hK hP 3 0 rfl rfl (hLx i sx (by omega) hsS) (by omega) rfl dAcceptors_majorityValue_45 ?_
        have hCi : f8 (i * S + sx) = cho n (fun a => f7 (a * S + sx)) (fun a => f8 (a * S + sx)) n 0 := by rw [← hC]; exact (cho_s (g := (fun a => f8 (a * S + sx))) h34).symm
        rw [hCi]
        exact W.iret (v := cho n (fun a => f7 (a * S + sx)) (fun a => f8 (a * S + sx)) n 0) hx hb hr (fun t9 ht9 hW9 => ⟨⟨cho n (fun a => f7 (a * S + sx)) (fun a => f8 (a * S + sx)) n 0, (wAc q cI n S L f6 f7 f8), rfl, ⟨rfl, rfl⟩, by rw [ht9]; exact hP, va_K.moved hW9.alike hK, hD⟩, hS.F ht9⟩) hS.2.2 dAcceptors_majorityValue_46
      · have hP : va_P D vwCl (wAc q cI n S L f6 f7 f8) H := hP
        have hD : va_D A (wAc q cI n S L f6 f7 f8) := hD
        refine lv_if_eq (tgt := 47) hx hb dAcceptors_majorityValue_37 (by decide) (fun _ => ?_) (fun h9 => absurd (by decide) h9)
        refine lv_iinc (k := 1) (v := nI (i + 1)) hx hb dAcceptors_majorityValue_47 hl rfl ((nI_succ _).symm) (by decide) rfl (fun ls hl => ?_)
        have hl : lv_has ls 4 [(2, .int (nI (i + 1))), (3, .int (nI (i * S + sx))), (0, .ref (q 9)), (1, .int (nI sx))] := hl
        refine lv_goto (tgt := 2) hx hb dAcceptors_majorityValue_50 (by decide) ?_
        exact ih2 (i + 1) ls H locs (by omega) (by rw [← hC]; exact (cho_n h34).symm) (lv_sub hl [0, 2, 3] rfl) hP hD hS
  exact loop2 n 0 ls s.heap [] (by omega) (rfl) hl hP hD hS
theorem dInteger_bitCount_0 : decode cInteger_bitCount 0 = .ok (.iload_n 0, 1) := by decide +kernel
theorem dInteger_bitCount_1 : decode cInteger_bitCount 1 = .ok (.iload_n 0, 1) := by decide +kernel
theorem dInteger_bitCount_2 : decode cInteger_bitCount 2 = .ok (.iconst 1, 1) := by decide +kernel
theorem dInteger_bitCount_3 : decode cInteger_bitCount 3 = .ok (.iushr, 1) := by decide +kernel
theorem dInteger_bitCount_4 : decode cInteger_bitCount 4 = .ok (.ldc_w 265, 3) := by decide +kernel
theorem dInteger_bitCount_7 : decode cInteger_bitCount 7 = .ok (.iand, 1) := by decide +kernel
theorem dInteger_bitCount_8 : decode cInteger_bitCount 8 = .ok (.isub, 1) := by decide +kernel
theorem dInteger_bitCount_9 : decode cInteger_bitCount 9 = .ok (.istore_n 0, 1) := by decide +kernel
theorem dInteger_bitCount_10 : decode cInteger_bitCount 10 = .ok (.iload_n 0, 1) := by decide +kernel
theorem dInteger_bitCount_11 : decode cInteger_bitCount 11 = .ok (.ldc_w 266, 3) := by decide +kernel
theorem dInteger_bitCount_14 : decode cInteger_bitCount 14 = .ok (.iand, 1) := by decide +kernel
theorem dInteger_bitCount_15 : decode cInteger_bitCount 15 = .ok (.iload_n 0, 1) := by decide +kernel
theorem dInteger_bitCount_16 : decode cInteger_bitCount 16 = .ok (.iconst 2, 1) := by decide +kernel
theorem dInteger_bitCount_17 : decode cInteger_bitCount 17 = .ok (.iushr, 1) := by decide +kernel
theorem dInteger_bitCount_18 : decode cInteger_bitCount 18 = .ok (.ldc_w 266, 3) := by decide +kernel
theorem dInteger_bitCount_21 : decode cInteger_bitCount 21 = .ok (.iand, 1) := by decide +kernel
theorem dInteger_bitCount_22 : decode cInteger_bitCount 22 = .ok (.iadd, 1) := by decide +kernel
theorem dInteger_bitCount_23 : decode cInteger_bitCount 23 = .ok (.istore_n 0, 1) := by decide +kernel
theorem dInteger_bitCount_24 : decode cInteger_bitCount 24 = .ok (.iload_n 0, 1) := by decide +kernel
theorem dInteger_bitCount_25 : decode cInteger_bitCount 25 = .ok (.iload_n 0, 1) := by decide +kernel
theorem dInteger_bitCount_26 : decode cInteger_bitCount 26 = .ok (.iconst 4, 1) := by decide +kernel
theorem dInteger_bitCount_27 : decode cInteger_bitCount 27 = .ok (.iushr, 1) := by decide +kernel
theorem dInteger_bitCount_28 : decode cInteger_bitCount 28 = .ok (.iadd, 1) := by decide +kernel
theorem dInteger_bitCount_29 : decode cInteger_bitCount 29 = .ok (.ldc_w 267, 3) := by decide +kernel
theorem dInteger_bitCount_32 : decode cInteger_bitCount 32 = .ok (.iand, 1) := by decide +kernel
theorem dInteger_bitCount_33 : decode cInteger_bitCount 33 = .ok (.istore_n 0, 1) := by decide +kernel
theorem dInteger_bitCount_34 : decode cInteger_bitCount 34 = .ok (.iload_n 0, 1) := by decide +kernel
theorem dInteger_bitCount_35 : decode cInteger_bitCount 35 = .ok (.iload_n 0, 1) := by decide +kernel
theorem dInteger_bitCount_36 : decode cInteger_bitCount 36 = .ok (.bipush 8, 2) := by decide +kernel
theorem dInteger_bitCount_38 : decode cInteger_bitCount 38 = .ok (.iushr, 1) := by decide +kernel
theorem dInteger_bitCount_39 : decode cInteger_bitCount 39 = .ok (.iadd, 1) := by decide +kernel
theorem dInteger_bitCount_40 : decode cInteger_bitCount 40 = .ok (.istore_n 0, 1) := by decide +kernel
theorem dInteger_bitCount_41 : decode cInteger_bitCount 41 = .ok (.iload_n 0, 1) := by decide +kernel
theorem dInteger_bitCount_42 : decode cInteger_bitCount 42 = .ok (.iload_n 0, 1) := by decide +kernel
theorem dInteger_bitCount_43 : decode cInteger_bitCount 43 = .ok (.bipush 16, 2) := by decide +kernel
theorem dInteger_bitCount_45 : decode cInteger_bitCount 45 = .ok (.iushr, 1) := by decide +kernel
theorem dInteger_bitCount_46 : decode cInteger_bitCount 46 = .ok (.iadd, 1) := by decide +kernel
theorem dInteger_bitCount_47 : decode cInteger_bitCount 47 = .ok (.istore_n 0, 1) := by decide +kernel
theorem dInteger_bitCount_48 : decode cInteger_bitCount 48 = .ok (.iload_n 0, 1) := by decide +kernel
theorem dInteger_bitCount_49 : decode cInteger_bitCount 49 = .ok (.bipush 63, 2) := by decide +kernel
theorem dInteger_bitCount_51 : decode cInteger_bitCount 51 = .ok (.iand, 1) := by decide +kernel
theorem dInteger_bitCount_52 : decode cInteger_bitCount 52 = .ok (.ireturn, 1) := by decide +kernel
set_option maxRecDepth 100000 in
set_option maxHeartbeats 4000000 in
theorem c_bitCount (l : Launch) (D : va_G) (cI cZ : ClassId) (k : Nat) (hk32 : k < 32) : MI l D [(cI, .int), (cZ, .boolean)] yInteger_bitCount wsInteger_bitCount ({ frames := 0, cells := 0, slots := 0, locals := 0 }) [.int (nI k)] ([] : va_W) (fun r w => r = nI (popn k) ∧ w = ([] : va_W)) := by
  intro sz
  refine Met.ofW (cc := cInteger_bitCount) (maxL := 1) (ret := (Option.some .int)) (by decide) rfl ?_
  intro p e s m args below meth c s₁ B hml hv
  obtain ⟨rfl, hsz, hP, hK, hD0, hZ⟩ := hv
  have hx := B.exec
  have hb := B.bytes
  have hr := B.returns
  have hts := atoms_spec (ws := wsInteger_bitCount) B.pre
  have hown : s.vm.findClass RInteger = some m.cls := findClass_of_methodNamed B.named
  have hlocks := B.notSynchronized
  subst hsz
  have hD := hD0.self (sz := s.heap.size)
  generalize hAe : va_A ([] : va_W) s.heap.size = A at hD ⊢
  have hA : ∀ q : Nat, s.heap.size ≤ q → A q := fun q h => by rw [← hAe]; exact Or.inr h
  have hS : va_S A s.heap s.heap [] := va_S.rf
  have hP : va_P D vwCl ([] : va_W) s.heap := hP
  have hl := lv_entry ([.int (nI k)]) (n := 1) (Nat.le_of_ble_eq_true rfl)
  rw [lg_entry_eq]
  generalize (lg_sl ([.int (nI k)]) ++ List.replicate (1 - (lg_sl ([.int (nI k)])).length) Slot.unset).toArray = ls at hl ⊢
  have hl : lv_has ls 1 [(0, .int (nI k))] := hl
  refine lv_iload_n hx hb dInteger_bitCount_0 rfl (lv_at hl 0 rfl) ?_
  refine lv_iload_n hx hb dInteger_bitCount_1 rfl (lv_at hl 0 rfl) ?_
  refine lv_iconst (v := nI 1) hx hb dInteger_bitCount_2 (by decide) ?_
  refine lv_iushr (v := ush (nI k) (nI 1)) hx hb dInteger_bitCount_3 rfl ?_
  refine lv_ldcw (v := 1431655765) hx hb hown (hts _ (mc wd214)) dInteger_bitCount_4 ?_
  refine lv_iand hx hb dInteger_bitCount_7 ?_
  refine lv_isub hx hb dInteger_bitCount_8 ?_
  refine lv_topi (nm_r (rfl) ?_)
  refine lv_istore_n hx hb dInteger_bitCount_9 rfl hl (by decide) rfl (fun ls hl => ?_)
  have hl : lv_has ls 1 [(0, .int (bc1 (nI k)))] := hl
  refine lv_iload_n hx hb dInteger_bitCount_10 rfl (lv_at hl 0 rfl) ?_
  refine lv_ldcw (v := 858993459) hx hb hown (hts _ (mc wd215)) dInteger_bitCount_11 ?_
  refine lv_iand hx hb dInteger_bitCount_14 ?_
  refine lv_iload_n hx hb dInteger_bitCount_15 rfl (lv_at hl 0 rfl) ?_
  refine lv_iconst (v := nI 2) hx hb dInteger_bitCount_16 (by decide) ?_
  refine lv_iushr (v := ush (bc1 (nI k)) (nI 2)) hx hb dInteger_bitCount_17 rfl ?_
  refine lv_ldcw (v := 858993459) hx hb hown (hts _ (mc wd215)) dInteger_bitCount_18 ?_
  refine lv_iand hx hb dInteger_bitCount_21 ?_
  refine lv_iadd hx hb dInteger_bitCount_22 ?_
  refine lv_topi (nm_r (rfl) ?_)
  refine lv_istore_n hx hb dInteger_bitCount_23 rfl hl (by decide) rfl (fun ls hl => ?_)
  have hl : lv_has ls 1 [(0, .int (bc2 (bc1 (nI k))))] := hl
  refine lv_iload_n hx hb dInteger_bitCount_24 rfl (lv_at hl 0 rfl) ?_
  refine lv_iload_n hx hb dInteger_bitCount_25 rfl (lv_at hl 0 rfl) ?_
  refine lv_iconst (v := nI 4) hx hb dInteger_bitCount_26 (by decide) ?_
  refine lv_iushr (v := ush (bc2 (bc1 (nI k))) (nI 4)) hx hb dInteger_bitCount_27 rfl ?_
  refine lv_iadd hx hb dInteger_bitCount_28 ?_
  refine lv_ldcw (v := 252645135) hx hb hown (hts _ (mc wd216)) dInteger_bitCount_29 ?_
  refine lv_iand hx hb dInteger_bitCount_32 ?_
  refine lv_topi (nm_r (rfl) ?_)
  refine lv_istore_n hx hb dInteger_bitCount_33 rfl hl (by decide) rfl (fun ls hl => ?_)
  have hl : lv_has ls 1 [(0, .int (bc3 (bc2 (bc1 (nI k)))))] := hl
  refine lv_iload_n hx hb dInteger_bitCount_34 rfl (lv_at hl 0 rfl) ?_
  refine lv_iload_n hx hb dInteger_bitCount_35 rfl (lv_at hl 0 rfl) ?_
  refine lv_bipush (v := nI 8) hx hb dInteger_bitCount_36 (by decide) ?_
  refine lv_iushr (v := ush (bc3 (bc2 (bc1 (nI k)))) (nI 8)) hx hb dInteger_bitCount_38 rfl ?_
  refine lv_iadd hx hb dInteger_bitCount_39 ?_
  refine lv_topi (nm_r (rfl) ?_)
  refine lv_istore_n hx hb dInteger_bitCount_40 rfl hl (by decide) rfl (fun ls hl => ?_)
  have hl : lv_has ls 1 [(0, .int (bc4 (bc3 (bc2 (bc1 (nI k))))))] := hl
  refine lv_iload_n hx hb dInteger_bitCount_41 rfl (lv_at hl 0 rfl) ?_
  refine lv_iload_n hx hb dInteger_bitCount_42 rfl (lv_at hl 0 rfl) ?_
  refine lv_bipush (v := nI 16) hx hb dInteger_bitCount_43 (by decide) ?_
  refine lv_iushr (v := ush (bc4 (bc3 (bc2 (bc1 (nI k))))) (nI 16)) hx hb dInteger_bitCount_45 rfl ?_
  refine lv_iadd hx hb dInteger_bitCount_46 ?_
  refine lv_topi (nm_r (rfl) ?_)
  refine lv_istore_n hx hb dInteger_bitCount_47 rfl hl (by decide) rfl (fun ls hl => ?_)
  have hl : lv_has ls 1 [(0, .int (bc5 (bc4 (bc3 (bc2 (bc1 (nI k)))))))] := hl
  refine lv_iload_n hx hb dInteger_bitCount_48 rfl (lv_at hl 0 rfl) ?_
  refine lv_bipush (v := nI 63) hx hb dInteger_bitCount_49 (by decide) ?_
  refine lv_iand hx hb dInteger_bitCount_51 ?_
  refine lv_topi (nm_r (bc_fin k hk32) ?_)
  exact W.iret (v := nI (popn k)) hx hb hr (fun t9 ht9 hW9 => ⟨⟨nI (popn k), ([] : va_W), rfl, ⟨rfl, rfl⟩, by rw [ht9]; exact hP, va_K.moved hW9.alike hK, hD⟩, hS.F ht9⟩) hS.2.2 dInteger_bitCount_52
theorem dProposers_promises_0 : decode cProposers_promises 0 = .ok (.aload_n 0, 1) := by decide +kernel
theorem dProposers_promises_1 : decode cProposers_promises 1 = .ok (.getfield 22, 3) := by decide +kernel
theorem dProposers_promises_4 : decode cProposers_promises 4 = .ok (.iload_n 1, 1) := by decide +kernel
theorem dProposers_promises_5 : decode cProposers_promises 5 = .ok (.iaload, 1) := by decide +kernel
theorem dProposers_promises_6 : decode cProposers_promises 6 = .ok (.invokestatic 37, 3) := by decide +kernel
theorem dProposers_promises_9 : decode cProposers_promises 9 = .ok (.ireturn, 1) := by decide +kernel
set_option maxRecDepth 100000 in
set_option maxHeartbeats 4000000 in
theorem c_promises (l : Launch) (D : va_G) (cI cZ : ClassId) (q : Nat → Nat) (n : Nat) (L : Nat) (f1 : Nat → Int32) (f2 : Nat → Int32) (f3 : Nat → Int32) (f4 : Nat → Int32) (f5 : Nat → Int32) (k : Nat) (e0 : Nat) (hL20 : L ≤ 20) (hkL : k < L) (hE : f3 k = nI e0) (he32 : e0 < 32) : MI l D [(cI, .int), (cZ, .boolean)] yProposers_promises wsProposers_promises ({ frames := 1, cells := 0, slots := 0, locals := 20 }) [.ref (q 3), .int (nI k)] (wPr q cI n L f1 f2 f3 f4 f5) (fun r w => r = nI (popn e0) ∧ w = (wPr q cI n L f1 f2 f3 f4 f5)) := by
  intro sz
  refine Met.ofW (cc := cProposers_promises) (maxL := 2) (ret := (Option.some .int)) (by decide) rfl ?_
  intro p e s m args below meth c s₁ B hml hv
  obtain ⟨rfl, hsz, hP, hK, hD0, hZ⟩ := hv
  have hx := B.exec
  have hb := B.bytes
  have hr := B.returns
  have hts := atoms_spec (ws := wsProposers_promises) B.pre
  have hown : s.vm.findClass RProposers = some m.cls := findClass_of_methodNamed B.named
  have hlocks := B.notSynchronized
  subst hsz
  have hD := hD0.self (sz := s.heap.size)
  generalize hAe : va_A (wPr q cI n L f1 f2 f3 f4 f5) s.heap.size = A at hD ⊢
  have hA : ∀ q : Nat, s.heap.size ≤ q → A q := fun q h => by rw [← hAe]; exact Or.inr h
  have hS : va_S A s.heap s.heap [] := va_S.rf
  have hP : va_P D vwCl (wPr q cI n L f1 f2 f3 f4 f5) s.heap := hP
  have hl := lv_entry ([.ref (q 3), .int (nI k)]) (n := 2) (Nat.le_of_ble_eq_true rfl)
  rw [lg_entry_eq]
  generalize (lg_sl ([.ref (q 3), .int (nI k)]) ++ List.replicate (2 - (lg_sl ([.ref (q 3), .int (nI k)])).length) Slot.unset).toArray = ls at hl ⊢
  have hl : lv_has ls 2 [(0, .ref (q 3)), (1, .int (nI k))] := hl
  refine lv_aload_n hx hb dProposers_promises_0 rfl (lv_at hl 0 rfl) ?_
  refine va_get (D := D) (ci := 2) (v := .ref (q 6)) (C := RProposers) (T := TProposers) (N := 6) hx hb hts (fun w h => mc (uProposers_in w h)) hown hK hP 0 rfl rfl 3 (by decide) (hts _ (mc wd49)) (fun _ h9 => h9) rfl dProposers_promises_1 ?_
  refine lv_iload_n hx hb dProposers_promises_4 rfl (lv_at hl 1 rfl) ?_
  refine ka_ld (v := nI e0) hx hb hK hP 3 0 rfl rfl (by omega) (by omega) hE dProposers_promises_5 ?_
  have hPc := hP.sub (ws' := ([] : va_W)) [] rfl
  have hDc := hD.sub (ws' := ([] : va_W)) [] (by decide) rfl
  refine kx_i (va_runS (As := [.int (nI e0)]) (rest := []) ⟨hx, hb, hml, hown, hts⟩ ((c_bitCount l D cI cZ e0 (he32)) s.heap.size) (va_cwS 1 hts (gS wd211 wd212 wd8 wd213) rfl rfl rfl (by decide +kernel) ⟨Nat.le_of_ble_eq_true rfl, Nat.le_of_ble_eq_true rfl⟩) ⟨fb_PW, pre_PW hK hPc hDc hZ⟩ rfl rfl hl.1 rfl (lv_room (Nat.le_of_ble_eq_true rfl)) dProposers_promises_6 ⟨Nat.zero_le _, Nat.zero_le _⟩) hP hD hS hA [] [0, 1, 2, 3, 4, 5] rfl rfl (by decide) (by decide) (fun r w1 H locs hw hP hD hS => ?_)
  obtain ⟨rfl, rfl⟩ := hw
  have hP : va_P D vwCl (wPr q cI n L f1 f2 f3 f4 f5) H := hP
  have hD : va_D A (wPr q cI n L f1 f2 f3 f4 f5) := hD
  exact W.iret (v := nI (popn e0)) hx hb hr (fun t9 ht9 hW9 => ⟨⟨nI (popn e0), (wPr q cI n L f1 f2 f3 f4 f5), rfl, ⟨rfl, rfl⟩, by rw [ht9]; exact hP, va_K.moved hW9.alike hK, hD⟩, hS.F ht9⟩) hS.2.2 dProposers_promises_9
theorem dProposers_wouldWin_0 : decode cProposers_wouldWin 0 = .ok (.aload_n 0, 1) := by decide +kernel
theorem dProposers_wouldWin_1 : decode cProposers_wouldWin 1 = .ok (.iload_n 1, 1) := by decide +kernel
theorem dProposers_wouldWin_2 : decode cProposers_wouldWin 2 = .ok (.iload_n 3, 1) := by decide +kernel
theorem dProposers_wouldWin_3 : decode cProposers_wouldWin 3 = .ok (.invokevirtual 43, 3) := by decide +kernel
theorem dProposers_wouldWin_6 : decode cProposers_wouldWin 6 = .ok (.ifCond .eq 30, 3) := by decide +kernel
theorem dProposers_wouldWin_9 : decode cProposers_wouldWin 9 = .ok (.aload_n 0, 1) := by decide +kernel
theorem dProposers_wouldWin_10 : decode cProposers_wouldWin 10 = .ok (.getfield 22, 3) := by decide +kernel
theorem dProposers_wouldWin_13 : decode cProposers_wouldWin 13 = .ok (.iload_n 1, 1) := by decide +kernel
theorem dProposers_wouldWin_14 : decode cProposers_wouldWin 14 = .ok (.iaload, 1) := by decide +kernel
theorem dProposers_wouldWin_15 : decode cProposers_wouldWin 15 = .ok (.iconst 1, 1) := by decide +kernel
theorem dProposers_wouldWin_16 : decode cProposers_wouldWin 16 = .ok (.iload_n 2, 1) := by decide +kernel
theorem dProposers_wouldWin_17 : decode cProposers_wouldWin 17 = .ok (.ishl, 1) := by decide +kernel
theorem dProposers_wouldWin_18 : decode cProposers_wouldWin 18 = .ok (.ior, 1) := by decide +kernel
theorem dProposers_wouldWin_19 : decode cProposers_wouldWin 19 = .ok (.invokestatic 37, 3) := by decide +kernel
theorem dProposers_wouldWin_22 : decode cProposers_wouldWin 22 = .ok (.aload_n 0, 1) := by decide +kernel
theorem dProposers_wouldWin_23 : decode cProposers_wouldWin 23 = .ok (.getfield 9, 3) := by decide +kernel
theorem dProposers_wouldWin_26 : decode cProposers_wouldWin 26 = .ok (.invokestatic 47, 3) := by decide +kernel
theorem dProposers_wouldWin_29 : decode cProposers_wouldWin 29 = .ok (.ifCond .eq 7, 3) := by decide +kernel
theorem dProposers_wouldWin_32 : decode cProposers_wouldWin 32 = .ok (.iconst 1, 1) := by decide +kernel
theorem dProposers_wouldWin_33 : decode cProposers_wouldWin 33 = .ok (.goto 4, 3) := by decide +kernel
theorem dProposers_wouldWin_36 : decode cProposers_wouldWin 36 = .ok (.iconst 0, 1) := by decide +kernel
theorem dProposers_wouldWin_37 : decode cProposers_wouldWin 37 = .ok (.ireturn, 1) := by decide +kernel
set_option maxRecDepth 100000 in
set_option maxHeartbeats 4000000 in
theorem c_wouldWin (l : Launch) (D : va_G) (cI cZ : ClassId) (q : Nat → Nat) (n : Nat) (L : Nat) (f1 : Nat → Int32) (f2 : Nat → Int32) (f3 : Nat → Int32) (f4 : Nat → Int32) (f5 : Nat → Int32) (k : Nat) (sd : Int32) (b : Int32) (e0 : Nat) (hL20 : L ≤ 20) (hkL : k < L) (hn5 : n ≤ 5) (hE : orb (f3 k) sd = nI e0) (he32 : e0 < 32) : MI l D [(cI, .int), (cZ, .boolean)] yProposers_wouldWin wsProposers_wouldWin ({ frames := 1, cells := 0, slots := 0, locals := 22 }) [.ref (q 3), .int (nI k), .int sd, .int b] (wPr q cI n L f1 f2 f3 f4 f5) (fun r w => (r = nI 1 ∧ ((f1 k = nI 1 ∧ f2 k = b) ∧ n < 2 * popn e0) ∧ w = (wPr q cI n L f1 f2 f3 f4 f5)) ∨ (r = nI 0 ∧ (¬ ((f1 k = nI 1 ∧ f2 k = b) ∧ n < 2 * popn e0)) ∧ w = (wPr q cI n L f1 f2 f3 f4 f5))) := by
  intro sz
  refine Met.ofW (cc := cProposers_wouldWin) (maxL := 4) (ret := (Option.some .boolean)) (by decide) rfl ?_
  intro p e s m args below meth c s₁ B hml hv
  obtain ⟨rfl, hsz, hP, hK, hD0, hZ⟩ := hv
  have hx := B.exec
  have hb := B.bytes
  have hr := B.returns
  have hts := atoms_spec (ws := wsProposers_wouldWin) B.pre
  have hown : s.vm.findClass RProposers = some m.cls := findClass_of_methodNamed B.named
  have hlocks := B.notSynchronized
  subst hsz
  have hD := hD0.self (sz := s.heap.size)
  generalize hAe : va_A (wPr q cI n L f1 f2 f3 f4 f5) s.heap.size = A at hD ⊢
  have hA : ∀ q : Nat, s.heap.size ≤ q → A q := fun q h => by rw [← hAe]; exact Or.inr h
  have hS : va_S A s.heap s.heap [] := va_S.rf
  have hP : va_P D vwCl (wPr q cI n L f1 f2 f3 f4 f5) s.heap := hP
  have hl := lv_entry ([.ref (q 3), .int (nI k), .int sd, .int b]) (n := 4) (Nat.le_of_ble_eq_true rfl)
  rw [lg_entry_eq]
  generalize (lg_sl ([.ref (q 3), .int (nI k), .int sd, .int b]) ++ List.replicate (4 - (lg_sl ([.ref (q 3), .int (nI k), .int sd, .int b])).length) Slot.unset).toArray = ls at hl ⊢
  have hl : lv_has ls 4 [(0, .ref (q 3)), (1, .int (nI k)), (2, .int sd), (3, .int b)] := hl
  refine lv_aload_n hx hb dProposers_wouldWin_0 rfl (lv_at hl 0 rfl) ?_
  refine lv_iload_n hx hb dProposers_wouldWin_1 rfl (lv_at hl 1 rfl) ?_
  refine lv_iload_n hx hb dProposers_wouldWin_2 rfl (lv_at hl 3 rfl) ?_
  have hPc := hP.sub (ws' := (wPr q cI n L f1 f2 f3 f4 f5)) [0, 1, 2, 3, 4, 5] rfl
  have hDc := hD.sub (ws' := (wPr q cI n L f1 f2 f3 f4 f5)) [0, 1, 2, 3, 4, 5] (by decide) rfl
  refine kx_i (va_runV (As := [.int (nI k), .int b]) (rest := []) ⟨hx, hb, hml, hown, hts⟩ ((c_awaits l D cI cZ q n L f1 f2 f3 f4 f5 k b (hL20) (hkL)) s.heap.size) (cwV 2 hts (gV wd207 wd209 sl_Proposers_awaits wd3 wd210) rfl rfl rfl (by decide +kernel) ⟨Nat.le_of_ble_eq_true rfl, Nat.le_of_ble_eq_true rfl⟩) ⟨fb_PW, va_recv (q0 := 0) (ci := 2) hK hPc rfl rfl, pre_PW hK hPc hDc hZ⟩ rfl rfl hl.1 rfl (lv_room (Nat.le_of_ble_eq_true rfl)) dProposers_wouldWin_3 ⟨Nat.zero_le _, Nat.zero_le _⟩) hP hD hS hA [0, 1, 2, 3, 4, 5] [] rfl rfl (by decide) (by decide) (fun r w1 H locs hw hP hD hS => ?_)
  rcases hw with ⟨rfl, h3, rfl⟩ | ⟨rfl, h3, rfl⟩
  · have hP : va_P D vwCl (wPr q cI n L f1 f2 f3 f4 f5) H := hP
    have hD : va_D A (wPr q cI n L f1 f2 f3 f4 f5) := hD
    refine lv_if_eq (tgt := 36) hx hb dProposers_wouldWin_6 (by decide) (fun h9 => absurd h9 (by decide)) (fun _ => ?_)
    refine lv_aload_n hx hb dProposers_wouldWin_9 rfl (lv_at hl 0 rfl) ?_
    refine va_get (D := D) (ci := 2) (v := .ref (q 6)) (C := RProposers) (T := TProposers) (N := 6) hx hb hts (fun w h => mc (uProposers_in w h)) hown hK hP 0 rfl rfl 3 (by decide) (hts _ (mc wd49)) (fun _ h9 => h9) rfl dProposers_wouldWin_10 ?_
    refine lv_iload_n hx hb dProposers_wouldWin_13 rfl (lv_at hl 1 rfl) ?_
    refine ka_ld (v := f3 k) hx hb hK hP 3 0 rfl rfl (by omega) (by omega) rfl dProposers_wouldWin_14 ?_
    refine lv_iconst (v := nI 1) hx hb dProposers_wouldWin_15 (by decide) ?_
    refine lv_iload_n hx hb dProposers_wouldWin_16 rfl (lv_at hl 2 rfl) ?_
    refine lv_ishl hx hb dProposers_wouldWin_17 ?_
    refine lv_ior hx hb dProposers_wouldWin_18 ?_
    refine lv_topi (nm_r (hE) ?_)
    have hPc := hP.sub (ws' := ([] : va_W)) [] rfl
    have hDc := hD.sub (ws' := ([] : va_W)) [] (by decide) rfl
    refine kx_i (va_runS (As := [.int (nI e0)]) (rest := []) ⟨hx, hb, hml, hown, hts⟩ ((c_bitCount l D cI cZ e0 (he32)) H.size) (va_cwS 1 hts (gS wd211 wd212 wd8 wd213) rfl rfl rfl (by decide +kernel) ⟨Nat.le_of_ble_eq_true rfl, Nat.le_of_ble_eq_true rfl⟩) ⟨fb_PW, pre_PW hK hPc hDc hZ⟩ rfl rfl hl.1 rfl (lv_room (Nat.le_of_ble_eq_true rfl)) dProposers_wouldWin_19 ⟨Nat.zero_le _, Nat.zero_le _⟩) hP hD hS hA [] [0, 1, 2, 3, 4, 5] rfl rfl (by decide) (by decide) (fun r w1 H locs hw hP hD hS => ?_)
    obtain ⟨rfl, rfl⟩ := hw
    have hP : va_P D vwCl (wPr q cI n L f1 f2 f3 f4 f5) H := hP
    have hD : va_D A (wPr q cI n L f1 f2 f3 f4 f5) := hD
    refine lv_aload_n hx hb dProposers_wouldWin_22 rfl (lv_at hl 0 rfl) ?_
    refine va_get (D := D) (ci := 2) (v := .int (nI n)) (C := RProposers) (T := TProposers) (N := 6) hx hb hts (fun w h => mc (uProposers_in w h)) hown hK hP 0 rfl rfl 0 (by decide) (hts _ (mc wd46)) (fun _ h9 => h9) rfl dProposers_wouldWin_23 ?_
    have hPc := hP.sub (ws' := ([] : va_W)) [] rfl
    have hDc := hD.sub (ws' := ([] : va_W)) [] (by decide) rfl
    refine kx_i (va_runSN (As := [.int (nI (popn e0)), .int (nI n)]) (rest := []) ⟨hx, hb, hml, hown, hts⟩ ((c_isMajority l D cI cZ (popn e0) n (popn_le _) (hn5)) H.size) ⟨va_cnB 2 hts (gC wd219) rfl rfl rfl (hZ.n2) (hts _ (mc wd1)) (by decide +kernel) ⟨Nat.le_of_ble_eq_true rfl, Nat.le_of_ble_eq_true rfl⟩, hts _ (mc wd218), trivial⟩ ⟨fb_PW, pre_PW hK hPc hDc hZ⟩ rfl rfl hl.1 rfl (lv_room (Nat.le_of_ble_eq_true rfl)) dProposers_wouldWin_26 ⟨Nat.zero_le _, Nat.zero_le _⟩) hP hD hS hA [] [0, 1, 2, 3, 4, 5] rfl rfl (by decide) (by decide) (fun r w1 H locs hw hP hD hS => ?_)
    rcases hw with ⟨rfl, h26, rfl⟩ | ⟨rfl, h26, rfl⟩
    · have hP : va_P D vwCl (wPr q cI n L f1 f2 f3 f4 f5) H := hP
      have hD : va_D A (wPr q cI n L f1 f2 f3 f4 f5) := hD
      refine lv_if_eq (tgt := 36) hx hb dProposers_wouldWin_29 (by decide) (fun h9 => absurd h9 (by decide)) (fun _ => ?_)
      refine lv_iconst (v := nI 1) hx hb dProposers_wouldWin_32 (by decide) ?_
      refine lv_goto (tgt := 37) hx hb dProposers_wouldWin_33 (by decide) ?_
      exact W.zret (v := nI 1) (ty := .boolean) hx hb hr (by decide) (fun t9 ht9 hW9 => ⟨⟨nI 1, (wPr q cI n L f1 f2 f3 f4 f5), rfl, Or.inl ⟨rfl, ⟨h3, h26⟩, rfl⟩, by rw [ht9]; exact hP, va_K.moved hW9.alike hK, hD⟩, hS.F ht9⟩) hS.2.2 dProposers_wouldWin_37
    · have hP : va_P D vwCl (wPr q cI n L f1 f2 f3 f4 f5) H := hP
      have hD : va_D A (wPr q cI n L f1 f2 f3 f4 f5) := hD
      refine lv_if_eq (tgt := 36) hx hb dProposers_wouldWin_29 (by decide) (fun _ => ?_) (fun h9 => absurd (by decide) h9)
      refine lv_iconst (v := nI 0) hx hb dProposers_wouldWin_36 (by decide) ?_
      exact W.zret (v := nI 0) (ty := .boolean) hx hb hr (by decide) (fun t9 ht9 hW9 => ⟨⟨nI 0, (wPr q cI n L f1 f2 f3 f4 f5), rfl, Or.inr ⟨rfl, fun h => h26 h.2, rfl⟩, by rw [ht9]; exact hP, va_K.moved hW9.alike hK, hD⟩, hS.F ht9⟩) hS.2.2 dProposers_wouldWin_37
  · have hP : va_P D vwCl (wPr q cI n L f1 f2 f3 f4 f5) H := hP
    have hD : va_D A (wPr q cI n L f1 f2 f3 f4 f5) := hD
    refine lv_if_eq (tgt := 36) hx hb dProposers_wouldWin_6 (by decide) (fun _ => ?_) (fun h9 => absurd (by decide) h9)
    refine lv_iconst (v := nI 0) hx hb dProposers_wouldWin_36 (by decide) ?_
    exact W.zret (v := nI 0) (ty := .boolean) hx hb hr (by decide) (fun t9 ht9 hW9 => ⟨⟨nI 0, (wPr q cI n L f1 f2 f3 f4 f5), rfl, Or.inr ⟨rfl, fun h => h3 h.1, rfl⟩, by rw [ht9]; exact hP, va_K.moved hW9.alike hK, hD⟩, hS.F ht9⟩) hS.2.2 dProposers_wouldWin_37
theorem dProposers_takePromise_0 : decode cProposers_takePromise 0 = .ok (.aload_n 0, 1) := by decide +kernel
theorem dProposers_takePromise_1 : decode cProposers_takePromise 1 = .ok (.iload_n 1, 1) := by decide +kernel
theorem dProposers_takePromise_2 : decode cProposers_takePromise 2 = .ok (.iload_n 3, 1) := by decide +kernel
theorem dProposers_takePromise_3 : decode cProposers_takePromise 3 = .ok (.invokevirtual 43, 3) := by decide +kernel
theorem dProposers_takePromise_6 : decode cProposers_takePromise 6 = .ok (.ifCond .ne 5, 3) := by decide +kernel
theorem dProposers_takePromise_9 : decode cProposers_takePromise 9 = .ok (.iconst 0, 1) := by decide +kernel
theorem dProposers_takePromise_10 : decode cProposers_takePromise 10 = .ok (.ireturn, 1) := by decide +kernel
theorem dProposers_takePromise_11 : decode cProposers_takePromise 11 = .ok (.aload_n 0, 1) := by decide +kernel
theorem dProposers_takePromise_12 : decode cProposers_takePromise 12 = .ok (.getfield 22, 3) := by decide +kernel
theorem dProposers_takePromise_15 : decode cProposers_takePromise 15 = .ok (.iload_n 1, 1) := by decide +kernel
theorem dProposers_takePromise_16 : decode cProposers_takePromise 16 = .ok (.dup2, 1) := by decide +kernel
theorem dProposers_takePromise_17 : decode cProposers_takePromise 17 = .ok (.iaload, 1) := by decide +kernel
theorem dProposers_takePromise_18 : decode cProposers_takePromise 18 = .ok (.iconst 1, 1) := by decide +kernel
theorem dProposers_takePromise_19 : decode cProposers_takePromise 19 = .ok (.iload_n 2, 1) := by decide +kernel
theorem dProposers_takePromise_20 : decode cProposers_takePromise 20 = .ok (.ishl, 1) := by decide +kernel
theorem dProposers_takePromise_21 : decode cProposers_takePromise 21 = .ok (.ior, 1) := by decide +kernel
theorem dProposers_takePromise_22 : decode cProposers_takePromise 22 = .ok (.iastore, 1) := by decide +kernel
theorem dProposers_takePromise_23 : decode cProposers_takePromise 23 = .ok (.iload 4, 2) := by decide +kernel
theorem dProposers_takePromise_25 : decode cProposers_takePromise 25 = .ok (.aload_n 0, 1) := by decide +kernel
theorem dProposers_takePromise_26 : decode cProposers_takePromise 26 = .ok (.getfield 25, 3) := by decide +kernel
theorem dProposers_takePromise_29 : decode cProposers_takePromise 29 = .ok (.iload_n 1, 1) := by decide +kernel
theorem dProposers_takePromise_30 : decode cProposers_takePromise 30 = .ok (.iaload, 1) := by decide +kernel
theorem dProposers_takePromise_31 : decode cProposers_takePromise 31 = .ok (.if_icmp .le 19, 3) := by decide +kernel
theorem dProposers_takePromise_34 : decode cProposers_takePromise 34 = .ok (.aload_n 0, 1) := by decide +kernel
theorem dProposers_takePromise_35 : decode cProposers_takePromise 35 = .ok (.getfield 25, 3) := by decide +kernel
theorem dProposers_takePromise_38 : decode cProposers_takePromise 38 = .ok (.iload_n 1, 1) := by decide +kernel
theorem dProposers_takePromise_39 : decode cProposers_takePromise 39 = .ok (.iload 4, 2) := by decide +kernel
theorem dProposers_takePromise_41 : decode cProposers_takePromise 41 = .ok (.iastore, 1) := by decide +kernel
theorem dProposers_takePromise_42 : decode cProposers_takePromise 42 = .ok (.aload_n 0, 1) := by decide +kernel
theorem dProposers_takePromise_43 : decode cProposers_takePromise 43 = .ok (.getfield 28, 3) := by decide +kernel
theorem dProposers_takePromise_46 : decode cProposers_takePromise 46 = .ok (.iload_n 1, 1) := by decide +kernel
theorem dProposers_takePromise_47 : decode cProposers_takePromise 47 = .ok (.iload 5, 2) := by decide +kernel
theorem dProposers_takePromise_49 : decode cProposers_takePromise 49 = .ok (.iastore, 1) := by decide +kernel
theorem dProposers_takePromise_50 : decode cProposers_takePromise 50 = .ok (.aload_n 0, 1) := by decide +kernel
theorem dProposers_takePromise_51 : decode cProposers_takePromise 51 = .ok (.iload_n 1, 1) := by decide +kernel
theorem dProposers_takePromise_52 : decode cProposers_takePromise 52 = .ok (.invokevirtual 50, 3) := by decide +kernel
theorem dProposers_takePromise_55 : decode cProposers_takePromise 55 = .ok (.aload_n 0, 1) := by decide +kernel
theorem dProposers_takePromise_56 : decode cProposers_takePromise 56 = .ok (.getfield 9, 3) := by decide +kernel
theorem dProposers_takePromise_59 : decode cProposers_takePromise 59 = .ok (.invokestatic 47, 3) := by decide +kernel
theorem dProposers_takePromise_62 : decode cProposers_takePromise 62 = .ok (.ifCond .ne 5, 3) := by decide +kernel
theorem dProposers_takePromise_65 : decode cProposers_takePromise 65 = .ok (.iconst 0, 1) := by decide +kernel
theorem dProposers_takePromise_66 : decode cProposers_takePromise 66 = .ok (.ireturn, 1) := by decide +kernel
theorem dProposers_takePromise_67 : decode cProposers_takePromise 67 = .ok (.aload_n 0, 1) := by decide +kernel
theorem dProposers_takePromise_68 : decode cProposers_takePromise 68 = .ok (.getfield 15, 3) := by decide +kernel
theorem dProposers_takePromise_71 : decode cProposers_takePromise 71 = .ok (.iload_n 1, 1) := by decide +kernel
theorem dProposers_takePromise_72 : decode cProposers_takePromise 72 = .ok (.iconst 2, 1) := by decide +kernel
theorem dProposers_takePromise_73 : decode cProposers_takePromise 73 = .ok (.iastore, 1) := by decide +kernel
theorem dProposers_takePromise_74 : decode cProposers_takePromise 74 = .ok (.iconst 1, 1) := by decide +kernel
theorem dProposers_takePromise_75 : decode cProposers_takePromise 75 = .ok (.ireturn, 1) := by decide +kernel
set_option maxRecDepth 100000 in
set_option maxHeartbeats 4000000 in
theorem c_takePromise (l : Launch) (D : va_G) (cI cZ : ClassId) (q : Nat → Nat) (n : Nat) (L : Nat) (f1 : Nat → Int32) (f2 : Nat → Int32) (f3 : Nat → Int32) (f4 : Nat → Int32) (f5 : Nat → Int32) (k : Nat) (sd : Int32) (b : Int32) (o : Int32) (v : Int32) (e0 : Nat) (hL20 : L ≤ 20) (hkL : k < L) (hn5 : n ≤ 5) (hE : orb (f3 k) sd = nI e0) (he32 : e0 < 32) : MI l D [(cI, .int), (cZ, .boolean)] yProposers_takePromise wsProposers_takePromise ({ frames := 2, cells := 0, slots := 0, locals := 41 }) [.ref (q 3), .int (nI k), .int sd, .int b, .int o, .int v] (wPr q cI n L f1 f2 f3 f4 f5) (fun r w => (r = nI 1 ∧ ((f1 k = nI 1 ∧ f2 k = b) ∧ n < 2 * popn e0) ∧ w = (wPr q cI n L (upd f1 k (nI 2)) f2 (upd f3 k (orb (f3 k) sd)) (if f4 k < o then upd f4 k o else f4) (if f4 k < o then upd f5 k v else f5))) ∨ (r = nI 0 ∧ ((f1 k = nI 1 ∧ f2 k = b) ∧ ¬ n < 2 * popn e0) ∧ w = (wPr q cI n L f1 f2 (upd f3 k (orb (f3 k) sd)) (if f4 k < o then upd f4 k o else f4) (if f4 k < o then upd f5 k v else f5))) ∨ (r = nI 0 ∧ (¬ (f1 k = nI 1 ∧ f2 k = b)) ∧ w = (wPr q cI n L f1 f2 f3 f4 f5))) := by
  intro sz
  refine Met.ofW (cc := cProposers_takePromise) (maxL := 6) (ret := (Option.some .boolean)) (by decide) rfl ?_
  intro p e s m args below meth c s₁ B hml hv
  obtain ⟨rfl, hsz, hP, hK, hD0, hZ⟩ := hv
  have hx := B.exec
  have hb := B.bytes
  have hr := B.returns
  have hts := atoms_spec (ws := wsProposers_takePromise) B.pre
  have hown : s.vm.findClass RProposers = some m.cls := findClass_of_methodNamed B.named
  have hlocks := B.notSynchronized
  subst hsz
  have hD := hD0.self (sz := s.heap.size)
  generalize hAe : va_A (wPr q cI n L f1 f2 f3 f4 f5) s.heap.size = A at hD ⊢
  have hA : ∀ q : Nat, s.heap.size ≤ q → A q := fun q h => by rw [← hAe]; exact Or.inr h
  have hS : va_S A s.heap s.heap [] := va_S.rf
  have hP : va_P D vwCl (wPr q cI n L f1 f2 f3 f4 f5) s.heap := hP
  have hl := lv_entry ([.ref (q 3), .int (nI k), .int sd, .int b, .int o, .int v]) (n := 6) (Nat.le_of_ble_eq_true rfl)
  rw [lg_entry_eq]
  generalize (lg_sl ([.ref (q 3), .int (nI k), .int sd, .int b, .int o, .int v]) ++ List.replicate (6 - (lg_sl ([.ref (q 3), .int (nI k), .int sd, .int b, .int o, .int v])).length) Slot.unset).toArray = ls at hl ⊢
  have hl : lv_has ls 6 [(0, .ref (q 3)), (1, .int (nI k)), (2, .int sd), (3, .int b), (4, .int o), (5, .int v)] := hl
  refine lv_aload_n hx hb dProposers_takePromise_0 rfl (lv_at hl 0 rfl) ?_
  refine lv_iload_n hx hb dProposers_takePromise_1 rfl (lv_at hl 1 rfl) ?_
  refine lv_iload_n hx hb dProposers_takePromise_2 rfl (lv_at hl 3 rfl) ?_
  have hPc := hP.sub (ws' := (wPr q cI n L f1 f2 f3 f4 f5)) [0, 1, 2, 3, 4, 5] rfl
  have hDc := hD.sub (ws' := (wPr q cI n L f1 f2 f3 f4 f5)) [0, 1, 2, 3, 4, 5] (by decide) rfl
  refine kx_i (va_runV (As := [.int (nI k), .int b]) (rest := []) ⟨hx, hb, hml, hown, hts⟩ ((c_awaits l D cI cZ q n L f1 f2 f3 f4 f5 k b (hL20) (hkL)) s.heap.size) (cwV 2 hts (gV wd207 wd209 sl_Proposers_awaits wd3 wd210) rfl rfl rfl (by decide +kernel) ⟨Nat.le_of_ble_eq_true rfl, Nat.le_of_ble_eq_true rfl⟩) ⟨fb_PW, va_recv (q0 := 0) (ci := 2) hK hPc rfl rfl, pre_PW hK hPc hDc hZ⟩ rfl rfl hl.1 rfl (lv_room (Nat.le_of_ble_eq_true rfl)) dProposers_takePromise_3 ⟨Nat.zero_le _, Nat.zero_le _⟩) hP hD hS hA [0, 1, 2, 3, 4, 5] [] rfl rfl (by decide) (by decide) (fun r w1 H locs hw hP hD hS => ?_)
  rcases hw with ⟨rfl, h3, rfl⟩ | ⟨rfl, h3, rfl⟩
  · have hP : va_P D vwCl (wPr q cI n L f1 f2 f3 f4 f5) H := hP
    have hD : va_D A (wPr q cI n L f1 f2 f3 f4 f5) := hD
    refine lv_if_ne (tgt := 11) hx hb dProposers_takePromise_6 (by decide) (fun _ => ?_) (fun h9 => absurd h9 (by decide))
    refine lv_aload_n hx hb dProposers_takePromise_11 rfl (lv_at hl 0 rfl) ?_
    refine va_get (D := D) (ci := 2) (v := .ref (q 6)) (C := RProposers) (T := TProposers) (N := 6) hx hb hts (fun w h => mc (uProposers_in w h)) hown hK hP 0 rfl rfl 3 (by decide) (hts _ (mc wd49)) (fun _ h9 => h9) rfl dProposers_takePromise_12 ?_
    refine lv_iload_n hx hb dProposers_takePromise_15 rfl (lv_at hl 1 rfl) ?_
    refine lv_dup2_11 hx hb dProposers_takePromise_16 rfl rfl ?_
    refine ka_ld (v := f3 k) hx hb hK hP 3 0 rfl rfl (by omega) (by omega) rfl dProposers_takePromise_17 ?_
    refine lv_iconst (v := nI 1) hx hb dProposers_takePromise_18 (by decide) ?_
    refine lv_iload_n hx hb dProposers_takePromise_19 rfl (lv_at hl 2 rfl) ?_
    refine lv_ishl hx hb dProposers_takePromise_20 ?_
    refine lv_ior hx hb dProposers_takePromise_21 ?_
    refine lv_topi (nm_r (rfl) ?_)
    refine ka_st (f' := upd f3 k (orb (f3 k) sd)) hx hb hK hP hD hS 3 0 rfl rfl (by omega) (by omega) rfl dProposers_takePromise_22 (fun H locs hP hD hS => ?_)
    have hP : va_P D vwCl (wPr q cI n L f1 f2 (upd f3 k (orb (f3 k) sd)) f4 f5) H := hP
    have hD : va_D A (wPr q cI n L f1 f2 (upd f3 k (orb (f3 k) sd)) f4 f5) := hD
    refine lv_iload hx hb dProposers_takePromise_23 (lv_at hl 4 rfl) ?_
    refine lv_aload_n hx hb dProposers_takePromise_25 rfl (lv_at hl 0 rfl) ?_
    refine va_get (D := D) (ci := 2) (v := .ref (q 7)) (C := RProposers) (T := TProposers) (N := 6) hx hb hts (fun w h => mc (uProposers_in w h)) hown hK hP 0 rfl rfl 4 (by decide) (hts _ (mc wd50)) (fun _ h9 => h9) rfl dProposers_takePromise_26 ?_
    refine lv_iload_n hx hb dProposers_takePromise_29 rfl (lv_at hl 1 rfl) ?_
    refine ka_ld (v := f4 k) hx hb hK hP 4 0 rfl rfl (by omega) (by omega) rfl dProposers_takePromise_30 ?_
    refine lv_icmp_le (tgt := 50) hx hb dProposers_takePromise_31 (by decide) (fun c31 => ?_) (fun c31 => ?_)
    · refine lv_aload_n hx hb dProposers_takePromise_50 rfl (lv_at hl 0 rfl) ?_
      refine lv_iload_n hx hb dProposers_takePromise_51 rfl (lv_at hl 1 rfl) ?_
      have hPc := hP.sub (ws' := (wPr q cI n L f1 f2 (upd f3 k (orb (f3 k) sd)) f4 f5)) [0, 1, 2, 3, 4, 5] rfl
      have hDc := hD.sub (ws' := (wPr q cI n L f1 f2 (upd f3 k (orb (f3 k) sd)) f4 f5)) [0, 1, 2, 3, 4, 5] (by decide) rfl
      refine kx_i (va_runV (As := [.int (nI k)]) (rest := []) ⟨hx, hb, hml, hown, hts⟩ ((c_promises l D cI cZ q n L f1 f2 (upd f3 k (orb (f3 k) sd)) f4 f5 k e0 (hL20) (hkL) (pk_us.trans hE) (he32)) H.size) (cwV 1 hts (gV wd248 wd249 wd250 wd3 wd251) rfl rfl rfl (by decide +kernel) ⟨Nat.le_of_ble_eq_true rfl, Nat.le_of_ble_eq_true rfl⟩) ⟨fb_PW, va_recv (q0 := 0) (ci := 2) hK hPc rfl rfl, pre_PW hK hPc hDc hZ⟩ rfl rfl hl.1 rfl (lv_room (Nat.le_of_ble_eq_true rfl)) dProposers_takePromise_52 ⟨Nat.zero_le _, Nat.zero_le _⟩) hP hD hS hA [0, 1, 2, 3, 4, 5] [] rfl rfl (by decide) (by decide) (fun r w1 H locs hw hP hD hS => ?_)
      obtain ⟨rfl, rfl⟩ := hw
      have hP : va_P D vwCl (wPr q cI n L f1 f2 (upd f3 k (orb (f3 k) sd)) f4 f5) H := hP
      have hD : va_D A (wPr q cI n L f1 f2 (upd f3 k (orb (f3 k) sd)) f4 f5) := hD
      refine lv_aload_n hx hb dProposers_takePromise_55 rfl (lv_at hl 0 rfl) ?_
      refine va_get (D := D) (ci := 2) (v := .int (nI n)) (C := RProposers) (T := TProposers) (N := 6) hx hb hts (fun w h => mc (uProposers_in w h)) hown hK hP 0 rfl rfl 0 (by decide) (hts _ (mc wd46)) (fun _ h9 => h9) rfl dProposers_takePromise_56 ?_
      have hPc := hP.sub (ws' := ([] : va_W)) [] rfl
      have hDc := hD.sub (ws' := ([] : va_W)) [] (by decide) rfl
      refine kx_i (va_runSN (As := [.int (nI (popn e0)), .int (nI n)]) (rest := []) ⟨hx, hb, hml, hown, hts⟩ ((c_isMajority l D cI cZ (popn e0) n (popn_le _) (hn5)) H.size) ⟨va_cnB 2 hts (gC wd219) rfl rfl rfl (hZ.n2) (hts _ (mc wd1)) (by decide +kernel) ⟨Nat.le_of_ble_eq_true rfl, Nat.le_of_ble_eq_true rfl⟩, hts _ (mc wd218), trivial⟩ ⟨fb_PW, pre_PW hK hPc hDc hZ⟩ rfl rfl hl.1 rfl (lv_room (Nat.le_of_ble_eq_true rfl)) dProposers_takePromise_59 ⟨Nat.zero_le _, Nat.zero_le _⟩) hP hD hS hA [] [0, 1, 2, 3, 4, 5] rfl rfl (by decide) (by decide) (fun r w1 H locs hw hP hD hS => ?_)
      rcases hw with ⟨rfl, h59, rfl⟩ | ⟨rfl, h59, rfl⟩
      · have hP : va_P D vwCl (wPr q cI n L f1 f2 (upd f3 k (orb (f3 k) sd)) f4 f5) H := hP
        have hD : va_D A (wPr q cI n L f1 f2 (upd f3 k (orb (f3 k) sd)) f4 f5) := hD
        refine lv_if_ne (tgt := 67) hx hb dProposers_takePromise_62 (by decide) (fun _ => ?_) (fun h9 => absurd h9 (by decide))
        refine lv_aload_n hx hb dProposers_takePromise_67 rfl (lv_at hl 0 rfl) ?_
        refine va_get (D := D) (ci := 2) (v := .ref (q 4)) (C := RProposers) (T := TProposers) (N := 6) hx hb hts (fun w h => mc (uProposers_in w h)) hown hK hP 0 rfl rfl 1 (by decide) (hts _ (mc wd47)) (fun _ h9 => h9) rfl dProposers_takePromise_68 ?_
        refine lv_iload_n hx hb dProposers_takePromise_71 rfl (lv_at hl 1 rfl) ?_
        refine lv_iconst (v := nI 2) hx hb dProposers_takePromise_72 (by decide) ?_
        refine ka_st (f' := upd f1 k (nI 2)) hx hb hK hP hD hS 1 0 rfl rfl (by omega) (by omega) rfl dProposers_takePromise_73 (fun H locs hP hD hS => ?_)
        have hP : va_P D vwCl (wPr q cI n L (upd f1 k (nI 2)) f2 (upd f3 k (orb (f3 k) sd)) f4 f5) H := hP
        have hD : va_D A (wPr q cI n L (upd f1 k (nI 2)) f2 (upd f3 k (orb (f3 k) sd)) f4 f5) := hD
        refine lv_iconst (v := nI 1) hx hb dProposers_takePromise_74 (by decide) ?_
        exact W.zret (v := nI 1) (ty := .boolean) hx hb hr (by decide) (fun t9 ht9 hW9 => ⟨⟨nI 1, (wPr q cI n L (upd f1 k (nI 2)) f2 (upd f3 k (orb (f3 k) sd)) f4 f5), rfl, Or.inl ⟨rfl, ⟨h3, h59⟩, by rw [if_neg (Int32.not_lt.mpr c31), if_neg (Int32.not_lt.mpr c31)]⟩, by rw [ht9]; exact hP, va_K.moved hW9.alike hK, hD⟩, hS.F ht9⟩) hS.2.2 dProposers_takePromise_75
      · have hP : va_P D vwCl (wPr q cI n L f1 f2 (upd f3 k (orb (f3 k) sd)) f4 f5) H := hP
        have hD : va_D A (wPr q cI n L f1 f2 (upd f3 k (orb (f3 k) sd)) f4 f5) := hD
        refine lv_if_ne (tgt := 67) hx hb dProposers_takePromise_62 (by decide) (fun h9 => absurd (by decide) h9) (fun _ => ?_)
        refine lv_iconst (v := nI 0) hx hb dProposers_takePromise_65 (by decide) ?_
        exact W.zret (v := nI 0) (ty := .boolean) hx hb hr (by decide) (fun t9 ht9 hW9 => ⟨⟨nI 0, (wPr q cI n L f1 f2 (upd f3 k (orb (f3 k) sd)) f4 f5), rfl, Or.inr (Or.inl ⟨rfl, ⟨h3, h59⟩, by rw [if_neg (Int32.not_lt.mpr c31), if_neg (Int32.not_lt.mpr c31)]⟩), by rw [ht9]; exact hP, va_K.moved hW9.alike hK, hD⟩, hS.F ht9⟩) hS.2.2 dProposers_takePromise_66
    · refine lv_aload_n hx hb dProposers_takePromise_34 rfl (lv_at hl 0 rfl) ?_
      refine va_get (D := D) (ci := 2) (v := .ref (q 7)) (C := RProposers) (T := TProposers) (N := 6) hx hb hts (fun w h => mc (uProposers_in w h)) hown hK hP 0 rfl rfl 4 (by decide) (hts _ (mc wd50)) (fun _ h9 => h9) rfl dProposers_takePromise_35 ?_
      refine lv_iload_n hx hb dProposers_takePromise_38 rfl (lv_at hl 1 rfl) ?_
      refine lv_iload hx hb dProposers_takePromise_39 (lv_at hl 4 rfl) ?_
      refine ka_st (f' := upd f4 k o) hx hb hK hP hD hS 4 0 rfl rfl (by omega) (by omega) rfl dProposers_takePromise_41 (fun H locs hP hD hS => ?_)
      have hP : va_P D vwCl (wPr q cI n L f1 f2 (upd f3 k (orb (f3 k) sd)) (upd f4 k o) f5) H := hP
      have hD : va_D A (wPr q cI n L f1 f2 (upd f3 k (orb (f3 k) sd)) (upd f4 k o) f5) := hD
      refine lv_aload_n hx hb dProposers_takePromise_42 rfl (lv_at hl 0 rfl) ?_
      refine va_get (D := D) (ci := 2) (v := .ref (q 8)) (C := RProposers) (T := TProposers) (N := 6) hx hb hts (fun w h => mc (uProposers_in w h)) hown hK hP 0 rfl rfl 5 (by decide) (hts _ (mc wd51)) (fun _ h9 => h9) rfl dProposers_takePromise_43 ?_
      refine lv_iload_n hx hb dProposers_takePromise_46 rfl (lv_at hl 1 rfl) ?_
      refine lv_iload hx hb dProposers_takePromise_47 (lv_at hl 5 rfl) ?_
      refine ka_st (f' := upd f5 k v) hx hb hK hP hD hS 5 0 rfl rfl (by omega) (by omega) rfl dProposers_takePromise_49 (fun H locs hP hD hS => ?_)
      have hP : va_P D vwCl (wPr q cI n L f1 f2 (upd f3 k (orb (f3 k) sd)) (upd f4 k o) (upd f5 k v)) H := hP
      have hD : va_D A (wPr q cI n L f1 f2 (upd f3 k (orb (f3 k) sd)) (upd f4 k o) (upd f5 k v)) := hD
      refine lv_aload_n hx hb dProposers_takePromise_50 rfl (lv_at hl 0 rfl) ?_
      refine lv_iload_n hx hb dProposers_takePromise_51 rfl (lv_at hl 1 rfl) ?_
      have hPc := hP.sub (ws' := (wPr q cI n L f1 f2 (upd f3 k (orb (f3 k) sd)) (upd f4 k o) (upd f5 k v))) [0, 1, 2, 3, 4, 5] rfl
      have hDc := hD.sub (ws' := (wPr q cI n L f1 f2 (upd f3 k (orb (f3 k) sd)) (upd f4 k o) (upd f5 k v))) [0, 1, 2, 3, 4, 5] (by decide) rfl
      refine kx_i (va_runV (As := [.int (nI k)]) (rest := []) ⟨hx, hb, hml, hown, hts⟩ ((c_promises l D cI cZ q n L f1 f2 (upd f3 k (orb (f3 k) sd)) (upd f4 k o) (upd f5 k v) k e0 (hL20) (hkL) (pk_us.trans hE) (he32)) H.size) (cwV 1 hts (gV wd248 wd249 wd250 wd3 wd251) rfl rfl rfl (by decide +kernel) ⟨Nat.le_of_ble_eq_true rfl, Nat.le_of_ble_eq_true rfl⟩) ⟨fb_PW, va_recv (q0 := 0) (ci := 2) hK hPc rfl rfl, pre_PW hK hPc hDc hZ⟩ rfl rfl hl.1 rfl (lv_room (Nat.le_of_ble_eq_true rfl)) dProposers_takePromise_52 ⟨Nat.zero_le _, Nat.zero_le _⟩) hP hD hS hA [0, 1, 2, 3, 4, 5] [] rfl rfl (by decide) (by decide) (fun r w1 H locs hw hP hD hS => ?_)
      obtain ⟨rfl, rfl⟩ := hw
      have hP : va_P D vwCl (wPr q cI n L f1 f2 (upd f3 k (orb (f3 k) sd)) (upd f4 k o) (upd f5 k v)) H := hP
      have hD : va_D A (wPr q cI n L f1 f2 (upd f3 k (orb (f3 k) sd)) (upd f4 k o) (upd f5 k v)) := hD
      refine lv_aload_n hx hb dProposers_takePromise_55 rfl (lv_at hl 0 rfl) ?_
      refine va_get (D := D) (ci := 2) (v := .int (nI n)) (C := RProposers) (T := TProposers) (N := 6) hx hb hts (fun w h => mc (uProposers_in w h)) hown hK hP 0 rfl rfl 0 (by decide) (hts _ (mc wd46)) (fun _ h9 => h9) rfl dProposers_takePromise_56 ?_
      have hPc := hP.sub (ws' := ([] : va_W)) [] rfl
      have hDc := hD.sub (ws' := ([] : va_W)) [] (by decide) rfl
      refine kx_i (va_runSN (As := [.int (nI (popn e0)), .int (nI n)]) (rest := []) ⟨hx, hb, hml, hown, hts⟩ ((c_isMajority l D cI cZ (popn e0) n (popn_le _) (hn5)) H.size) ⟨va_cnB 2 hts (gC wd219) rfl rfl rfl (hZ.n2) (hts _ (mc wd1)) (by decide +kernel) ⟨Nat.le_of_ble_eq_true rfl, Nat.le_of_ble_eq_true rfl⟩, hts _ (mc wd218), trivial⟩ ⟨fb_PW, pre_PW hK hPc hDc hZ⟩ rfl rfl hl.1 rfl (lv_room (Nat.le_of_ble_eq_true rfl)) dProposers_takePromise_59 ⟨Nat.zero_le _, Nat.zero_le _⟩) hP hD hS hA [] [0, 1, 2, 3, 4, 5] rfl rfl (by decide) (by decide) (fun r w1 H locs hw hP hD hS => ?_)
      rcases hw with ⟨rfl, h59, rfl⟩ | ⟨rfl, h59, rfl⟩
      · have hP : va_P D vwCl (wPr q cI n L f1 f2 (upd f3 k (orb (f3 k) sd)) (upd f4 k o) (upd f5 k v)) H := hP
        have hD : va_D A (wPr q cI n L f1 f2 (upd f3 k (orb (f3 k) sd)) (upd f4 k o) (upd f5 k v)) := hD
        refine lv_if_ne (tgt := 67) hx hb dProposers_takePromise_62 (by decide) (fun _ => ?_) (fun h9 => absurd h9 (by decide))
        refine lv_aload_n hx hb dProposers_takePromise_67 rfl (lv_at hl 0 rfl) ?_
        refine va_get (D := D) (ci := 2) (v := .ref (q 4)) (C := RProposers) (T := TProposers) (N := 6) hx hb hts (fun w h => mc (uProposers_in w h)) hown hK hP 0 rfl rfl 1 (by decide) (hts _ (mc wd47)) (fun _ h9 => h9) rfl dProposers_takePromise_68 ?_
        refine lv_iload_n hx hb dProposers_takePromise_71 rfl (lv_at hl 1 rfl) ?_
        refine lv_iconst (v := nI 2) hx hb dProposers_takePromise_72 (by decide) ?_
        refine ka_st (f' := upd f1 k (nI 2)) hx hb hK hP hD hS 1 0 rfl rfl (by omega) (by omega) rfl dProposers_takePromise_73 (fun H locs hP hD hS => ?_)
        have hP : va_P D vwCl (wPr q cI n L (upd f1 k (nI 2)) f2 (upd f3 k (orb (f3 k) sd)) (upd f4 k o) (upd f5 k v)) H := hP
        have hD : va_D A (wPr q cI n L (upd f1 k (nI 2)) f2 (upd f3 k (orb (f3 k) sd)) (upd f4 k o) (upd f5 k v)) := hD
        refine lv_iconst (v := nI 1) hx hb dProposers_takePromise_74 (by decide) ?_
        exact W.zret (v := nI 1) (ty := .boolean) hx hb hr (by decide) (fun t9 ht9 hW9 => ⟨⟨nI 1, (wPr q cI n L (upd f1 k (nI 2)) f2 (upd f3 k (orb (f3 k) sd)) (upd f4 k o) (upd f5 k v)), rfl, Or.inl ⟨rfl, ⟨h3, h59⟩, by rw [if_pos (Int32.not_le.mp c31), if_pos (Int32.not_le.mp c31)]⟩, by rw [ht9]; exact hP, va_K.moved hW9.alike hK, hD⟩, hS.F ht9⟩) hS.2.2 dProposers_takePromise_75
      · have hP : va_P D vwCl (wPr q cI n L f1 f2 (upd f3 k (orb (f3 k) sd)) (upd f4 k o) (upd f5 k v)) H := hP
        have hD : va_D A (wPr q cI n L f1 f2 (upd f3 k (orb (f3 k) sd)) (upd f4 k o) (upd f5 k v)) := hD
        refine lv_if_ne (tgt := 67) hx hb dProposers_takePromise_62 (by decide) (fun h9 => absurd (by decide) h9) (fun _ => ?_)
        refine lv_iconst (v := nI 0) hx hb dProposers_takePromise_65 (by decide) ?_
        exact W.zret (v := nI 0) (ty := .boolean) hx hb hr (by decide) (fun t9 ht9 hW9 => ⟨⟨nI 0, (wPr q cI n L f1 f2 (upd f3 k (orb (f3 k) sd)) (upd f4 k o) (upd f5 k v)), rfl, Or.inr (Or.inl ⟨rfl, ⟨h3, h59⟩, by rw [if_pos (Int32.not_le.mp c31), if_pos (Int32.not_le.mp c31)]⟩), by rw [ht9]; exact hP, va_K.moved hW9.alike hK, hD⟩, hS.F ht9⟩) hS.2.2 dProposers_takePromise_66
  · have hP : va_P D vwCl (wPr q cI n L f1 f2 f3 f4 f5) H := hP
    have hD : va_D A (wPr q cI n L f1 f2 f3 f4 f5) := hD
    refine lv_if_ne (tgt := 11) hx hb dProposers_takePromise_6 (by decide) (fun h9 => absurd (by decide) h9) (fun _ => ?_)
    refine lv_iconst (v := nI 0) hx hb dProposers_takePromise_9 (by decide) ?_
    exact W.zret (v := nI 0) (ty := .boolean) hx hb hr (by decide) (fun t9 ht9 hW9 => ⟨⟨nI 0, (wPr q cI n L f1 f2 f3 f4 f5), rfl, Or.inr (Or.inr ⟨rfl, h3, rfl⟩), by rw [ht9]; exact hP, va_K.moved hW9.alike hK, hD⟩, hS.F ht9⟩) hS.2.2 dProposers_takePromise_10
theorem dLearners_ballotOf_0 : decode cLearners_ballotOf 0 = .ok (.aload_n 0, 1) := by decide +kernel
theorem dLearners_ballotOf_1 : decode cLearners_ballotOf 1 = .ok (.getfield 15, 3) := by decide +kernel
theorem dLearners_ballotOf_4 : decode cLearners_ballotOf 4 = .ok (.iload_n 1, 1) := by decide +kernel
theorem dLearners_ballotOf_5 : decode cLearners_ballotOf 5 = .ok (.aload_n 0, 1) := by decide +kernel
theorem dLearners_ballotOf_6 : decode cLearners_ballotOf 6 = .ok (.getfield 9, 3) := by decide +kernel
theorem dLearners_ballotOf_9 : decode cLearners_ballotOf 9 = .ok (.imul, 1) := by decide +kernel
theorem dLearners_ballotOf_10 : decode cLearners_ballotOf 10 = .ok (.iload_n 2, 1) := by decide +kernel
theorem dLearners_ballotOf_11 : decode cLearners_ballotOf 11 = .ok (.iadd, 1) := by decide +kernel
theorem dLearners_ballotOf_12 : decode cLearners_ballotOf 12 = .ok (.iaload, 1) := by decide +kernel
theorem dLearners_ballotOf_13 : decode cLearners_ballotOf 13 = .ok (.ireturn, 1) := by decide +kernel
set_option maxRecDepth 100000 in
set_option maxHeartbeats 4000000 in
theorem c_ballotOf (l : Launch) (D : va_G) (cI cZ : ClassId) (q : Nat → Nat) (n : Nat) (L : Nat) (f9 : Nat → Int32) (f10 : Nat → Int32) (k : Nat) (j : Nat) (hL20 : L ≤ 20) (hn5 : n ≤ 5) (hkL : k < L) (hjn : j < n) : MI l D [(cI, .int), (cZ, .boolean)] yLearners_ballotOf wsLearners_ballotOf ({ frames := 0, cells := 0, slots := 0, locals := 0 }) [.ref (q 13), .int (nI k), .int (nI j)] (wLe q cI n L f9 f10) (fun r w => r = f9 (k * n + j) ∧ w = (wLe q cI n L f9 f10)) := by
  intro sz
  refine Met.ofW (cc := cLearners_ballotOf) (maxL := 3) (ret := (Option.some .int)) (by decide) rfl ?_
  intro p e s m args below meth c s₁ B hml hv
  obtain ⟨rfl, hsz, hP, hK, hD0, hZ⟩ := hv
  have hx := B.exec
  have hb := B.bytes
  have hr := B.returns
  have hts := atoms_spec (ws := wsLearners_ballotOf) B.pre
  have hown : s.vm.findClass RLearners = some m.cls := findClass_of_methodNamed B.named
  have hlocks := B.notSynchronized
  subst hsz
  have hD := hD0.self (sz := s.heap.size)
  generalize hAe : va_A (wLe q cI n L f9 f10) s.heap.size = A at hD ⊢
  have hA : ∀ q : Nat, s.heap.size ≤ q → A q := fun q h => by rw [← hAe]; exact Or.inr h
  have hS : va_S A s.heap s.heap [] := va_S.rf
  have hP : va_P D vwCl (wLe q cI n L f9 f10) s.heap := hP
  have hl := lv_entry ([.ref (q 13), .int (nI k), .int (nI j)]) (n := 3) (Nat.le_of_ble_eq_true rfl)
  rw [lg_entry_eq]
  generalize (lg_sl ([.ref (q 13), .int (nI k), .int (nI j)]) ++ List.replicate (3 - (lg_sl ([.ref (q 13), .int (nI k), .int (nI j)])).length) Slot.unset).toArray = ls at hl ⊢
  have hl : lv_has ls 3 [(0, .ref (q 13)), (1, .int (nI k)), (2, .int (nI j))] := hl
  refine lv_aload_n hx hb dLearners_ballotOf_0 rfl (lv_at hl 0 rfl) ?_
  refine va_get (D := D) (ci := 4) (v := .ref (q 14)) (C := RLearners) (T := TLearners) (N := 3) hx hb hts (fun w h => mc (uLearners_in w h)) hown hK hP 0 rfl rfl 1 (by decide) (hts _ (mc wd96)) (fun _ h9 => h9) rfl dLearners_ballotOf_1 ?_
  refine lv_iload_n hx hb dLearners_ballotOf_4 rfl (lv_at hl 1 rfl) ?_
  refine lv_aload_n hx hb dLearners_ballotOf_5 rfl (lv_at hl 0 rfl) ?_
  refine va_get (D := D) (ci := 4) (v := .int (nI n)) (C := RLearners) (T := TLearners) (N := 3) hx hb hts (fun w h => mc (uLearners_in w h)) hown hK hP 0 rfl rfl 0 (by decide) (hts _ (mc wd95)) (fun _ h9 => h9) rfl dLearners_ballotOf_6 ?_
  refine lv_imul hx hb dLearners_ballotOf_9 ?_
  refine lv_topi (nm_r (pk_mul _ _) ?_)
  refine lv_iload_n hx hb dLearners_ballotOf_10 rfl (lv_at hl 2 rfl) ?_
  refine lv_iadd hx hb dLearners_ballotOf_11 ?_
  refine lv_topi (nm_r (nI_add _ _) ?_)
  refine ka_ld (v := f9 (k * n + j)) hx hb hK hP 1 0 rfl rfl (seat_lt hkL hjn) (by have := Nat.mul_le_mul hL20 hn5; omega) rfl dLearners_ballotOf_12 ?_
  exact W.iret (v := f9 (k * n + j)) hx hb hr (fun t9 ht9 hW9 => ⟨⟨f9 (k * n + j), (wLe q cI n L f9 f10), rfl, ⟨rfl, rfl⟩, by rw [ht9]; exact hP, va_K.moved hW9.alike hK, hD⟩, hS.F ht9⟩) hS.2.2 dLearners_ballotOf_13
theorem dLearners_decree_0 : decode cLearners_decree 0 = .ok (.aload_n 0, 1) := by decide +kernel
theorem dLearners_decree_1 : decode cLearners_decree 1 = .ok (.getfield 19, 3) := by decide +kernel
theorem dLearners_decree_4 : decode cLearners_decree 4 = .ok (.iload_n 1, 1) := by decide +kernel
theorem dLearners_decree_5 : decode cLearners_decree 5 = .ok (.iaload, 1) := by decide +kernel
theorem dLearners_decree_6 : decode cLearners_decree 6 = .ok (.ireturn, 1) := by decide +kernel
set_option maxRecDepth 100000 in
set_option maxHeartbeats 4000000 in
theorem c_decree (l : Launch) (D : va_G) (cI cZ : ClassId) (q : Nat → Nat) (n : Nat) (L : Nat) (f9 : Nat → Int32) (f10 : Nat → Int32) (k : Nat) (hL20 : L ≤ 20) (hkL : k < L) : MI l D [(cI, .int), (cZ, .boolean)] yLearners_decree wsLearners_decree ({ frames := 0, cells := 0, slots := 0, locals := 0 }) [.ref (q 13), .int (nI k)] (wLe q cI n L f9 f10) (fun r w => r = f10 k ∧ w = (wLe q cI n L f9 f10)) := by
  intro sz
  refine Met.ofW (cc := cLearners_decree) (maxL := 2) (ret := (Option.some .int)) (by decide) rfl ?_
  intro p e s m args below meth c s₁ B hml hv
  obtain ⟨rfl, hsz, hP, hK, hD0, hZ⟩ := hv
  have hx := B.exec
  have hb := B.bytes
  have hr := B.returns
  have hts := atoms_spec (ws := wsLearners_decree) B.pre
  have hown : s.vm.findClass RLearners = some m.cls := findClass_of_methodNamed B.named
  have hlocks := B.notSynchronized
  subst hsz
  have hD := hD0.self (sz := s.heap.size)
  generalize hAe : va_A (wLe q cI n L f9 f10) s.heap.size = A at hD ⊢
  have hA : ∀ q : Nat, s.heap.size ≤ q → A q := fun q h => by rw [← hAe]; exact Or.inr h
  have hS : va_S A s.heap s.heap [] := va_S.rf
  have hP : va_P D vwCl (wLe q cI n L f9 f10) s.heap := hP
  have hl := lv_entry ([.ref (q 13), .int (nI k)]) (n := 2) (Nat.le_of_ble_eq_true rfl)
  rw [lg_entry_eq]
  generalize (lg_sl ([.ref (q 13), .int (nI k)]) ++ List.replicate (2 - (lg_sl ([.ref (q 13), .int (nI k)])).length) Slot.unset).toArray = ls at hl ⊢
  have hl : lv_has ls 2 [(0, .ref (q 13)), (1, .int (nI k))] := hl
  refine lv_aload_n hx hb dLearners_decree_0 rfl (lv_at hl 0 rfl) ?_
  refine va_get (D := D) (ci := 4) (v := .ref (q 15)) (C := RLearners) (T := TLearners) (N := 3) hx hb hts (fun w h => mc (uLearners_in w h)) hown hK hP 0 rfl rfl 2 (by decide) (hts _ (mc wd97)) (fun _ h9 => h9) rfl dLearners_decree_1 ?_
  refine lv_iload_n hx hb dLearners_decree_4 rfl (lv_at hl 1 rfl) ?_
  refine ka_ld (v := f10 k) hx hb hK hP 2 0 rfl rfl (by omega) (by omega) rfl dLearners_decree_5 ?_
  exact W.iret (v := f10 k) hx hb hr (fun t9 ht9 hW9 => ⟨⟨f10 k, (wLe q cI n L f9 f10), rfl, ⟨rfl, rfl⟩, by rw [ht9]; exact hP, va_K.moved hW9.alike hK, hD⟩, hS.F ht9⟩) hS.2.2 dLearners_decree_6
theorem dLearners_learn_0 : decode cLearners_learn 0 = .ok (.aload_n 0, 1) := by decide +kernel
theorem dLearners_learn_1 : decode cLearners_learn 1 = .ok (.getfield 19, 3) := by decide +kernel
theorem dLearners_learn_4 : decode cLearners_learn 4 = .ok (.iload_n 1, 1) := by decide +kernel
theorem dLearners_learn_5 : decode cLearners_learn 5 = .ok (.iaload, 1) := by decide +kernel
theorem dLearners_learn_6 : decode cLearners_learn 6 = .ok (.ifCond .ne 10, 3) := by decide +kernel
theorem dLearners_learn_9 : decode cLearners_learn 9 = .ok (.aload_n 0, 1) := by decide +kernel
theorem dLearners_learn_10 : decode cLearners_learn 10 = .ok (.getfield 19, 3) := by decide +kernel
theorem dLearners_learn_13 : decode cLearners_learn 13 = .ok (.iload_n 1, 1) := by decide +kernel
theorem dLearners_learn_14 : decode cLearners_learn 14 = .ok (.iload_n 2, 1) := by decide +kernel
theorem dLearners_learn_15 : decode cLearners_learn 15 = .ok (.iastore, 1) := by decide +kernel
theorem dLearners_learn_16 : decode cLearners_learn 16 = .ok (.return_, 1) := by decide +kernel
set_option maxRecDepth 100000 in
set_option maxHeartbeats 4000000 in
theorem c_learn (l : Launch) (D : va_G) (cI cZ : ClassId) (q : Nat → Nat) (n : Nat) (L : Nat) (f9 : Nat → Int32) (f10 : Nat → Int32) (k : Nat) (v : Int32) (hL20 : L ≤ 20) (hkL : k < L) : MV l D [(cI, .int), (cZ, .boolean)] yLearners_learn wsLearners_learn ({ frames := 0, cells := 0, slots := 0, locals := 0 }) [.ref (q 13), .int (nI k), .int v] (wLe q cI n L f9 f10) (fun w => w = (wLe q cI n L f9 (if f10 k = 0 then upd f10 k v else f10))) := by
  intro sz
  refine Met.ofW (cc := cLearners_learn) (maxL := 3) (ret := (Option.none : Option ClassFile.FieldType)) (by decide) rfl ?_
  intro p e s m args below meth c s₁ B hml hv
  obtain ⟨rfl, hsz, hP, hK, hD0, hZ⟩ := hv
  have hx := B.exec
  have hb := B.bytes
  have hr := B.returns
  have hts := atoms_spec (ws := wsLearners_learn) B.pre
  have hown : s.vm.findClass RLearners = some m.cls := findClass_of_methodNamed B.named
  have hlocks := B.notSynchronized
  subst hsz
  have hD := hD0.self (sz := s.heap.size)
  generalize hAe : va_A (wLe q cI n L f9 f10) s.heap.size = A at hD ⊢
  have hA : ∀ q : Nat, s.heap.size ≤ q → A q := fun q h => by rw [← hAe]; exact Or.inr h
  have hS : va_S A s.heap s.heap [] := va_S.rf
  have hP : va_P D vwCl (wLe q cI n L f9 f10) s.heap := hP
  have hl := lv_entry ([.ref (q 13), .int (nI k), .int v]) (n := 3) (Nat.le_of_ble_eq_true rfl)
  rw [lg_entry_eq]
  generalize (lg_sl ([.ref (q 13), .int (nI k), .int v]) ++ List.replicate (3 - (lg_sl ([.ref (q 13), .int (nI k), .int v])).length) Slot.unset).toArray = ls at hl ⊢
  have hl : lv_has ls 3 [(0, .ref (q 13)), (1, .int (nI k)), (2, .int v)] := hl
  refine lv_aload_n hx hb dLearners_learn_0 rfl (lv_at hl 0 rfl) ?_
  refine va_get (D := D) (ci := 4) (v := .ref (q 15)) (C := RLearners) (T := TLearners) (N := 3) hx hb hts (fun w h => mc (uLearners_in w h)) hown hK hP 0 rfl rfl 2 (by decide) (hts _ (mc wd97)) (fun _ h9 => h9) rfl dLearners_learn_1 ?_
  refine lv_iload_n hx hb dLearners_learn_4 rfl (lv_at hl 1 rfl) ?_
  refine ka_ld (v := f10 k) hx hb hK hP 2 0 rfl rfl (by omega) (by omega) rfl dLearners_learn_5 ?_
  refine lv_if_ne (tgt := 16) hx hb dLearners_learn_6 (by decide) (fun c6 => ?_) (fun c6 => ?_)
  · exact W.vret hx hb hr (fun t9 ht9 hW9 => ⟨⟨(wLe q cI n L f9 f10), rfl, by rw [if_neg c6], by rw [ht9]; exact hP, va_K.moved hW9.alike hK, hD⟩, hS.F ht9⟩) hS.2.2 dLearners_learn_16
  · refine lv_aload_n hx hb dLearners_learn_9 rfl (lv_at hl 0 rfl) ?_
    refine va_get (D := D) (ci := 4) (v := .ref (q 15)) (C := RLearners) (T := TLearners) (N := 3) hx hb hts (fun w h => mc (uLearners_in w h)) hown hK hP 0 rfl rfl 2 (by decide) (hts _ (mc wd97)) (fun _ h9 => h9) rfl dLearners_learn_10 ?_
    refine lv_iload_n hx hb dLearners_learn_13 rfl (lv_at hl 1 rfl) ?_
    refine lv_iload_n hx hb dLearners_learn_14 rfl (lv_at hl 2 rfl) ?_
    refine ka_st (f' := upd f10 k v) hx hb hK hP hD hS 2 0 rfl rfl (by omega) (by omega) rfl dLearners_learn_15 (fun H locs hP hD hS => ?_)
    have hP : va_P D vwCl (wLe q cI n L f9 (upd f10 k v)) H := hP
    have hD : va_D A (wLe q cI n L f9 (upd f10 k v)) := hD
    exact W.vret hx hb hr (fun t9 ht9 hW9 => ⟨⟨(wLe q cI n L f9 (upd f10 k v)), rfl, by rw [if_pos c6], by rw [ht9]; exact hP, va_K.moved hW9.alike hK, hD⟩, hS.F ht9⟩) hS.2.2 dLearners_learn_16
theorem dLearners_nodesHeardWith_0 : decode cLearners_nodesHeardWith 0 = .ok (.iconst 0, 1) := by decide +kernel
theorem dLearners_nodesHeardWith_1 : decode cLearners_nodesHeardWith 1 = .ok (.istore_n 3, 1) := by decide +kernel
theorem dLearners_nodesHeardWith_2 : decode cLearners_nodesHeardWith 2 = .ok (.iconst 0, 1) := by decide +kernel
theorem dLearners_nodesHeardWith_3 : decode cLearners_nodesHeardWith 3 = .ok (.istore 4, 2) := by decide +kernel
theorem dLearners_nodesHeardWith_5 : decode cLearners_nodesHeardWith 5 = .ok (.iload 4, 2) := by decide +kernel
theorem dLearners_nodesHeardWith_7 : decode cLearners_nodesHeardWith 7 = .ok (.aload_n 0, 1) := by decide +kernel
theorem dLearners_nodesHeardWith_8 : decode cLearners_nodesHeardWith 8 = .ok (.getfield 9, 3) := by decide +kernel
theorem dLearners_nodesHeardWith_11 : decode cLearners_nodesHeardWith 11 = .ok (.if_icmp .ge 23, 3) := by decide +kernel
theorem dLearners_nodesHeardWith_14 : decode cLearners_nodesHeardWith 14 = .ok (.aload_n 0, 1) := by decide +kernel
theorem dLearners_nodesHeardWith_15 : decode cLearners_nodesHeardWith 15 = .ok (.iload_n 1, 1) := by decide +kernel
theorem dLearners_nodesHeardWith_16 : decode cLearners_nodesHeardWith 16 = .ok (.iload 4, 2) := by decide +kernel
theorem dLearners_nodesHeardWith_18 : decode cLearners_nodesHeardWith 18 = .ok (.invokevirtual 28, 3) := by decide +kernel
theorem dLearners_nodesHeardWith_21 : decode cLearners_nodesHeardWith 21 = .ok (.iload_n 2, 1) := by decide +kernel
theorem dLearners_nodesHeardWith_22 : decode cLearners_nodesHeardWith 22 = .ok (.if_icmp .ne 6, 3) := by decide +kernel
theorem dLearners_nodesHeardWith_25 : decode cLearners_nodesHeardWith 25 = .ok (.iinc 3  1, 3) := by decide +kernel
theorem dLearners_nodesHeardWith_28 : decode cLearners_nodesHeardWith 28 = .ok (.iinc 4  1, 3) := by decide +kernel
theorem dLearners_nodesHeardWith_31 : decode cLearners_nodesHeardWith 31 = .ok (.goto (-26), 3) := by decide +kernel
theorem dLearners_nodesHeardWith_34 : decode cLearners_nodesHeardWith 34 = .ok (.iload_n 3, 1) := by decide +kernel
theorem dLearners_nodesHeardWith_35 : decode cLearners_nodesHeardWith 35 = .ok (.ireturn, 1) := by decide +kernel
set_option maxRecDepth 100000 in
set_option maxHeartbeats 4000000 in
theorem c_nodesHeardWith (l : Launch) (D : va_G) (cI cZ : ClassId) (q : Nat → Nat) (n : Nat) (L : Nat) (f9 : Nat → Int32) (f10 : Nat → Int32) (k : Nat) (b : Int32) (hL20 : L ≤ 20) (hn5 : n ≤ 5) (hkL : k < L) : MI l D [(cI, .int), (cZ, .boolean)] yLearners_nodesHeardWith wsLearners_nodesHeardWith ({ frames := 1, cells := 0, slots := 0, locals := 22 }) [.ref (q 13), .int (nI k), .int b] (wLe q cI n L f9 f10) (fun r w => r = nI (cntE (fun i => f9 (k * n + i)) b n) ∧ w = (wLe q cI n L f9 f10)) := by
  intro sz
  refine Met.ofW (cc := cLearners_nodesHeardWith) (maxL := 5) (ret := (Option.some .int)) (by decide) rfl ?_
  intro p e s m args below meth c s₁ B hml hv
  obtain ⟨rfl, hsz, hP, hK, hD0, hZ⟩ := hv
  have hx := B.exec
  have hb := B.bytes
  have hr := B.returns
  have hts := atoms_spec (ws := wsLearners_nodesHeardWith) B.pre
  have hown : s.vm.findClass RLearners = some m.cls := findClass_of_methodNamed B.named
  have hlocks := B.notSynchronized
  subst hsz
  have hD := hD0.self (sz := s.heap.size)
  generalize hAe : va_A (wLe q cI n L f9 f10) s.heap.size = A at hD ⊢
  have hA : ∀ q : Nat, s.heap.size ≤ q → A q := fun q h => by rw [← hAe]; exact Or.inr h
  have hS : va_S A s.heap s.heap [] := va_S.rf
  have hP : va_P D vwCl (wLe q cI n L f9 f10) s.heap := hP
  have hl := lv_entry ([.ref (q 13), .int (nI k), .int b]) (n := 5) (Nat.le_of_ble_eq_true rfl)
  rw [lg_entry_eq]
  generalize (lg_sl ([.ref (q 13), .int (nI k), .int b]) ++ List.replicate (5 - (lg_sl ([.ref (q 13), .int (nI k), .int b])).length) Slot.unset).toArray = ls at hl ⊢
  have hl : lv_has ls 5 [(0, .ref (q 13)), (1, .int (nI k)), (2, .int b)] := hl
  refine lv_iconst (v := nI 0) hx hb dLearners_nodesHeardWith_0 (by decide) ?_
  refine lv_istore_n hx hb dLearners_nodesHeardWith_1 rfl hl (by decide) rfl (fun ls hl => ?_)
  have hl : lv_has ls 5 [(3, .int (nI 0)), (0, .ref (q 13)), (1, .int (nI k)), (2, .int b)] := hl
  refine lv_iconst (v := nI 0) hx hb dLearners_nodesHeardWith_2 (by decide) ?_
  refine lv_istore hx hb dLearners_nodesHeardWith_3 hl (by decide) rfl (fun ls hl => ?_)
  have hl : lv_has ls 5 [(4, .int (nI 0)), (3, .int (nI 0)), (0, .ref (q 13)), (1, .int (nI k)), (2, .int b)] := hl
  have loop5 : ∀ (d5 i : Nat) (ls : Array Slot) (H : Heap) (locs : List Loc), i + d5 = n → lv_has ls 5 [(4, .int (nI i)), (3, .int (nI (cntE (fun i => f9 (k * n + i)) b i))), (0, .ref (q 13)), (1, .int (nI k)), (2, .int b)] → va_P D vwCl (wLe q cI n L f9 f10) H → va_D A (wLe q cI n L f9 f10) → va_S A s.heap H locs → W p l e (headSpec wsLearners_nodesHeardWith { frames := 1, cells := 0, slots := 0, locals := 22 }).room s m [.ref (q 13), .int (nI k), .int b].toArray below meth c H locs 0 0 (MQ below (va_Qi (fun r w => r = nI (cntE (fun i => f9 (k * n + i)) b n) ∧ w = (wLe q cI n L f9 f10)) (QW D [(cI, .int), (cZ, .boolean)] A) A) [.ref (q 13), .int (nI k), .int b].toArray s 0 0 A) (F0 m 5 ls []) := by
    intro d5
    induction d5 with
    | zero =>
      intro i ls H locs hid5  hl hP hD hS
      refine lv_iload hx hb dLearners_nodesHeardWith_5 (lv_at hl 0 rfl) ?_
      refine lv_aload_n hx hb dLearners_nodesHeardWith_7 rfl (lv_at hl 2 rfl) ?_
      refine va_get (D := D) (ci := 4) (v := .int (nI n)) (C := RLearners) (T := TLearners) (N := 3) hx hb hts (fun w h => mc (uLearners_in w h)) hown hK hP 0 rfl rfl 0 (by decide) (hts _ (mc wd95)) (fun _ h9 => h9) rfl dLearners_nodesHeardWith_8 ?_
      refine lv_icmp_ge (tgt := 34) hx hb dLearners_nodesHeardWith_11 (by decide) (fun _ => ?_) (fun h9 => absurd (nI_le (by omega) (by omega)) h9)
      refine lv_iload_n hx hb dLearners_nodesHeardWith_34 rfl (lv_at hl 1 rfl) ?_
      have hin : n = i := by omega
      subst hin
      exact W.iret (v := nI (cntE (fun i => f9 (k * n + i)) b n)) hx hb hr (fun t9 ht9 hW9 => ⟨⟨nI (cntE (fun i => f9 (k * n + i)) b n), (wLe q cI n L f9 f10), rfl, ⟨rfl, rfl⟩, by rw [ht9]; exact hP, va_K.moved hW9.alike hK, hD⟩, hS.F ht9⟩) hS.2.2 dLearners_nodesHeardWith_35
    | succ d5 ih5 =>
      intro i ls H locs hid5  hl hP hD hS
      refine lv_iload hx hb dLearners_nodesHeardWith_5 (lv_at hl 0 rfl) ?_
      refine lv_aload_n hx hb dLearners_nodesHeardWith_7 rfl (lv_at hl 2 rfl) ?_
      refine va_get (D := D) (ci := 4) (v := .int (nI n)) (C := RLearners) (T := TLearners) (N := 3) hx hb hts (fun w h => mc (uLearners_in w h)) hown hK hP 0 rfl rfl 0 (by decide) (hts _ (mc wd95)) (fun _ h9 => h9) rfl dLearners_nodesHeardWith_8 ?_
      refine lv_icmp_ge (tgt := 34) hx hb dLearners_nodesHeardWith_11 (by decide) (fun h9 => absurd h9 (nI_ge (by omega) (by omega))) (fun _ => ?_)
      refine lv_aload_n hx hb dLearners_nodesHeardWith_14 rfl (lv_at hl 2 rfl) ?_
      refine lv_iload_n hx hb dLearners_nodesHeardWith_15 rfl (lv_at hl 3 rfl) ?_
      refine lv_iload hx hb dLearners_nodesHeardWith_16 (lv_at hl 0 rfl) ?_
      have hPc := hP.sub (ws' := (wLe q cI n L f9 f10)) [0, 1, 2] rfl
      have hDc := hD.sub (ws' := (wLe q cI n L f9 f10)) [0, 1, 2] (by decide) rfl
      refine kx_i (va_runV (As := [.int (nI k), .int (nI i)]) (rest := []) ⟨hx, hb, hml, hown, hts⟩ ((c_ballotOf l D cI cZ q n L f9 f10 k i (hL20) (hn5) (hkL) (by omega)) H.size) (cwV 2 hts (gV wd265 wd266 wd267 wd6 wd268) rfl rfl rfl (by decide +kernel) ⟨Nat.le_of_ble_eq_true rfl, Nat.le_of_ble_eq_true rfl⟩) ⟨fb_PW, va_recv (q0 := 0) (ci := 4) hK hPc rfl rfl, pre_PW hK hPc hDc hZ⟩ rfl rfl hl.1 rfl (lv_room (Nat.le_of_ble_eq_true rfl)) dLearners_nodesHeardWith_18 ⟨Nat.zero_le _, Nat.zero_le _⟩) hP hD hS hA [0, 1, 2] [] rfl rfl (by decide) (by decide) (fun r w1 H locs hw hP hD hS => ?_)
      obtain ⟨rfl, rfl⟩ := hw
      have hP : va_P D vwCl (wLe q cI n L f9 f10) H := hP
      have hD : va_D A (wLe q cI n L f9 f10) := hD
      refine lv_iload_n hx hb dLearners_nodesHeardWith_21 rfl (lv_at hl 4 rfl) ?_
      refine lv_icmp_ne (tgt := 28) hx hb dLearners_nodesHeardWith_22 (by decide) (fun c22 => ?_) (fun c22 => ?_)
      · have hz : nI (cntE (fun i => f9 (k * n + i)) b i) = nI (cntE (fun i => f9 (k * n + i)) b (i + 1)) := by show _ = nI (cntE _ _ _ + _); rw [if_neg c22]; rfl
        rw [hz] at hl
        refine lv_iinc (k := 0) (v := nI (i + 1)) hx hb dLearners_nodesHeardWith_28 hl rfl ((nI_succ _).symm) (by decide) rfl (fun ls hl => ?_)
        have hl : lv_has ls 5 [(4, .int (nI (i + 1))), (3, .int (nI (cntE (fun i => f9 (k * n + i)) b (i + 1)))), (0, .ref (q 13)), (1, .int (nI k)), (2, .int b)] := hl
        refine lv_goto (tgt := 5) hx hb dLearners_nodesHeardWith_31 (by decide) ?_
        exact ih5 (i + 1) ls H locs (by omega) hl hP hD hS
      · refine lv_iinc (k := 1) (v := nI (cntE (fun i => f9 (k * n + i)) b (i + 1))) hx hb dLearners_nodesHeardWith_25 hl rfl (by show nI _ + 1 = nI (cntE _ _ _ + _); rw [if_pos c22, nI_1]) (by decide) rfl (fun ls hl => ?_)
        have hl : lv_has ls 5 [(3, .int (nI (cntE (fun i => f9 (k * n + i)) b (i + 1)))), (4, .int (nI i)), (0, .ref (q 13)), (1, .int (nI k)), (2, .int b)] := hl
        refine lv_iinc (k := 1) (v := nI (i + 1)) hx hb dLearners_nodesHeardWith_28 hl rfl ((nI_succ _).symm) (by decide) rfl (fun ls hl => ?_)
        have hl : lv_has ls 5 [(4, .int (nI (i + 1))), (3, .int (nI (cntE (fun i => f9 (k * n + i)) b (i + 1)))), (0, .ref (q 13)), (1, .int (nI k)), (2, .int b)] := hl
        refine lv_goto (tgt := 5) hx hb dLearners_nodesHeardWith_31 (by decide) ?_
        exact ih5 (i + 1) ls H locs (by omega) hl hP hD hS
  exact loop5 n 0 ls s.heap [] (by omega) hl hP hD hS
theorem dLearners_comeBack_0 : decode cLearners_comeBack 0 = .ok (.iconst 0, 1) := by decide +kernel
theorem dLearners_comeBack_1 : decode cLearners_comeBack 1 = .ok (.istore_n 2, 1) := by decide +kernel
theorem dLearners_comeBack_2 : decode cLearners_comeBack 2 = .ok (.iload_n 2, 1) := by decide +kernel
theorem dLearners_comeBack_3 : decode cLearners_comeBack 3 = .ok (.aload_n 0, 1) := by decide +kernel
theorem dLearners_comeBack_4 : decode cLearners_comeBack 4 = .ok (.getfield 9, 3) := by decide +kernel
theorem dLearners_comeBack_7 : decode cLearners_comeBack 7 = .ok (.if_icmp .ge 23, 3) := by decide +kernel
theorem dLearners_comeBack_10 : decode cLearners_comeBack 10 = .ok (.aload_n 0, 1) := by decide +kernel
theorem dLearners_comeBack_11 : decode cLearners_comeBack 11 = .ok (.getfield 15, 3) := by decide +kernel
theorem dLearners_comeBack_14 : decode cLearners_comeBack 14 = .ok (.iload_n 1, 1) := by decide +kernel
theorem dLearners_comeBack_15 : decode cLearners_comeBack 15 = .ok (.aload_n 0, 1) := by decide +kernel
theorem dLearners_comeBack_16 : decode cLearners_comeBack 16 = .ok (.getfield 9, 3) := by decide +kernel
theorem dLearners_comeBack_19 : decode cLearners_comeBack 19 = .ok (.imul, 1) := by decide +kernel
theorem dLearners_comeBack_20 : decode cLearners_comeBack 20 = .ok (.iload_n 2, 1) := by decide +kernel
theorem dLearners_comeBack_21 : decode cLearners_comeBack 21 = .ok (.iadd, 1) := by decide +kernel
theorem dLearners_comeBack_22 : decode cLearners_comeBack 22 = .ok (.iconst (-1), 1) := by decide +kernel
theorem dLearners_comeBack_23 : decode cLearners_comeBack 23 = .ok (.iastore, 1) := by decide +kernel
theorem dLearners_comeBack_24 : decode cLearners_comeBack 24 = .ok (.iinc 2  1, 3) := by decide +kernel
theorem dLearners_comeBack_27 : decode cLearners_comeBack 27 = .ok (.goto (-25), 3) := by decide +kernel
theorem dLearners_comeBack_30 : decode cLearners_comeBack 30 = .ok (.aload_n 0, 1) := by decide +kernel
theorem dLearners_comeBack_31 : decode cLearners_comeBack 31 = .ok (.getfield 19, 3) := by decide +kernel
theorem dLearners_comeBack_34 : decode cLearners_comeBack 34 = .ok (.iload_n 1, 1) := by decide +kernel
theorem dLearners_comeBack_35 : decode cLearners_comeBack 35 = .ok (.iconst 0, 1) := by decide +kernel
theorem dLearners_comeBack_36 : decode cLearners_comeBack 36 = .ok (.iastore, 1) := by decide +kernel
theorem dLearners_comeBack_37 : decode cLearners_comeBack 37 = .ok (.return_, 1) := by decide +kernel
set_option maxRecDepth 100000 in
set_option maxHeartbeats 4000000 in
theorem c_leBack (l : Launch) (D : va_G) (cI cZ : ClassId) (q : Nat → Nat) (n : Nat) (L : Nat) (f9 : Nat → Int32) (f10 : Nat → Int32) (k : Nat) (hL20 : L ≤ 20) (hn5 : n ≤ 5) (hkL : k < L) : MV l D [(cI, .int), (cZ, .boolean)] yLearners_comeBack wsLearners_comeBack ({ frames := 0, cells := 0, slots := 0, locals := 0 }) [.ref (q 13), .int (nI k)] (wLe q cI n L f9 f10) (fun w => w = (wLe q cI n L (fillr f9 (k * n) (-1) n) (upd f10 k (nI 0)))) := by
  intro sz
  refine Met.ofW (cc := cLearners_comeBack) (maxL := 3) (ret := (Option.none : Option ClassFile.FieldType)) (by decide) rfl ?_
  intro p e s m args below meth c s₁ B hml hv
  obtain ⟨rfl, hsz, hP, hK, hD0, hZ⟩ := hv
  have hx := B.exec
  have hb := B.bytes
  have hr := B.returns
  have hts := atoms_spec (ws := wsLearners_comeBack) B.pre
  have hown : s.vm.findClass RLearners = some m.cls := findClass_of_methodNamed B.named
  have hlocks := B.notSynchronized
  subst hsz
  have hD := hD0.self (sz := s.heap.size)
  generalize hAe : va_A (wLe q cI n L f9 f10) s.heap.size = A at hD ⊢
  have hA : ∀ q : Nat, s.heap.size ≤ q → A q := fun q h => by rw [← hAe]; exact Or.inr h
  have hS : va_S A s.heap s.heap [] := va_S.rf
  have hP : va_P D vwCl (wLe q cI n L f9 f10) s.heap := hP
  have hl := lv_entry ([.ref (q 13), .int (nI k)]) (n := 3) (Nat.le_of_ble_eq_true rfl)
  rw [lg_entry_eq]
  generalize (lg_sl ([.ref (q 13), .int (nI k)]) ++ List.replicate (3 - (lg_sl ([.ref (q 13), .int (nI k)])).length) Slot.unset).toArray = ls at hl ⊢
  have hl : lv_has ls 3 [(0, .ref (q 13)), (1, .int (nI k))] := hl
  refine lv_iconst (v := nI 0) hx hb dLearners_comeBack_0 (by decide) ?_
  refine lv_istore_n hx hb dLearners_comeBack_1 rfl hl (by decide) rfl (fun ls hl => ?_)
  have hl : lv_has ls 3 [(2, .int (nI 0)), (0, .ref (q 13)), (1, .int (nI k))] := hl
  have loop2 : ∀ (d2 i : Nat) (ls : Array Slot) (H : Heap) (locs : List Loc), i + d2 = n → lv_has ls 3 [(2, .int (nI i)), (0, .ref (q 13)), (1, .int (nI k))] → va_P D vwCl (wLe q cI n L (fillr f9 (k * n) (-1) i) f10) H → va_D A (wLe q cI n L (fillr f9 (k * n) (-1) i) f10) → va_S A s.heap H locs → W p l e (headSpec wsLearners_comeBack { frames := 0, cells := 0, slots := 0, locals := 0 }).room s m [.ref (q 13), .int (nI k)].toArray below meth c H locs 0 0 (MQ below (va_Qv (fun w => w = (wLe q cI n L (fillr f9 (k * n) (-1) n) (upd f10 k (nI 0)))) (QW D [(cI, .int), (cZ, .boolean)] A) A) [.ref (q 13), .int (nI k)].toArray s 0 0 A) (F0 m 2 ls []) := by
    intro d2
    induction d2 with
    | zero =>
      intro i ls H locs hid2  hl hP hD hS
      refine lv_iload_n hx hb dLearners_comeBack_2 rfl (lv_at hl 0 rfl) ?_
      refine lv_aload_n hx hb dLearners_comeBack_3 rfl (lv_at hl 1 rfl) ?_
      refine va_get (D := D) (ci := 4) (v := .int (nI n)) (C := RLearners) (T := TLearners) (N := 3) hx hb hts (fun w h => mc (uLearners_in w h)) hown hK hP 0 rfl rfl 0 (by decide) (hts _ (mc wd95)) (fun _ h9 => h9) rfl dLearners_comeBack_4 ?_
      refine lv_icmp_ge (tgt := 30) hx hb dLearners_comeBack_7 (by decide) (fun _ => ?_) (fun h9 => absurd (nI_le (by omega) (by omega)) h9)
      have hin : n = i := by omega
      subst hin
      refine lv_aload_n hx hb dLearners_comeBack_30 rfl (lv_at hl 1 rfl) ?_
      refine va_get (D := D) (ci := 4) (v := .ref (q 15)) (C := RLearners) (T := TLearners) (N := 3) hx hb hts (fun w h => mc (uLearners_in w h)) hown hK hP 0 rfl rfl 2 (by decide) (hts _ (mc wd97)) (fun _ h9 => h9) rfl dLearners_comeBack_31 ?_
      refine lv_iload_n hx hb dLearners_comeBack_34 rfl (lv_at hl 2 rfl) ?_
      refine lv_iconst (v := nI 0) hx hb dLearners_comeBack_35 (by decide) ?_
      refine ka_st (f' := upd f10 k (nI 0)) hx hb hK hP hD hS 2 0 rfl rfl (by omega) (by omega) rfl dLearners_comeBack_36 (fun H locs hP hD hS => ?_)
      have hP : va_P D vwCl (wLe q cI n L (fillr f9 (k * n) (-1) n) (upd f10 k (nI 0))) H := hP
      have hD : va_D A (wLe q cI n L (fillr f9 (k * n) (-1) n) (upd f10 k (nI 0))) := hD
      exact W.vret hx hb hr (fun t9 ht9 hW9 => ⟨⟨(wLe q cI n L (fillr f9 (k * n) (-1) n) (upd f10 k (nI 0))), rfl, rfl, by rw [ht9]; exact hP, va_K.moved hW9.alike hK, hD⟩, hS.F ht9⟩) hS.2.2 dLearners_comeBack_37
    | succ d2 ih2 =>
      intro i ls H locs hid2  hl hP hD hS
      refine lv_iload_n hx hb dLearners_comeBack_2 rfl (lv_at hl 0 rfl) ?_
      refine lv_aload_n hx hb dLearners_comeBack_3 rfl (lv_at hl 1 rfl) ?_
      refine va_get (D := D) (ci := 4) (v := .int (nI n)) (C := RLearners) (T := TLearners) (N := 3) hx hb hts (fun w h => mc (uLearners_in w h)) hown hK hP 0 rfl rfl 0 (by decide) (hts _ (mc wd95)) (fun _ h9 => h9) rfl dLearners_comeBack_4 ?_
      refine lv_icmp_ge (tgt := 30) hx hb dLearners_comeBack_7 (by decide) (fun h9 => absurd h9 (nI_ge (by omega) (by omega))) (fun _ => ?_)
      refine lv_aload_n hx hb dLearners_comeBack_10 rfl (lv_at hl 1 rfl) ?_
      refine va_get (D := D) (ci := 4) (v := .ref (q 14)) (C := RLearners) (T := TLearners) (N := 3) hx hb hts (fun w h => mc (uLearners_in w h)) hown hK hP 0 rfl rfl 1 (by decide) (hts _ (mc wd96)) (fun _ h9 => h9) rfl dLearners_comeBack_11 ?_
      refine lv_iload_n hx hb dLearners_comeBack_14 rfl (lv_at hl 2 rfl) ?_
      refine lv_aload_n hx hb dLearners_comeBack_15 rfl (lv_at hl 1 rfl) ?_
      refine va_get (D := D) (ci := 4) (v := .int (nI n)) (C := RLearners) (T := TLearners) (N := 3) hx hb hts (fun w h => mc (uLearners_in w h)) hown hK hP 0 rfl rfl 0 (by decide) (hts _ (mc wd95)) (fun _ h9 => h9) rfl dLearners_comeBack_16 ?_
      refine lv_imul hx hb dLearners_comeBack_19 ?_
      refine lv_topi (nm_r (pk_mul _ _) ?_)
      refine lv_iload_n hx hb dLearners_comeBack_20 rfl (lv_at hl 0 rfl) ?_
      refine lv_iadd hx hb dLearners_comeBack_21 ?_
      refine lv_topi (nm_r (nI_add _ _) ?_)
      refine lv_iconst (v := (-1)) hx hb dLearners_comeBack_22 (by decide) ?_
      refine ka_st (f' := fillr f9 (k * n) (-1) (i + 1)) hx hb hK hP hD hS 1 0 rfl rfl (seat_lt hkL (by omega)) (by have := Nat.mul_le_mul hL20 hn5; omega) rfl dLearners_comeBack_23 (fun H locs hP hD hS => ?_)
      have hP : va_P D vwCl (wLe q cI n L (fillr f9 (k * n) (-1) (i + 1)) f10) H := hP
      have hD : va_D A (wLe q cI n L (fillr f9 (k * n) (-1) (i + 1)) f10) := hD
      refine lv_iinc (k := 0) (v := nI (i + 1)) hx hb dLearners_comeBack_24 hl rfl ((nI_succ _).symm) (by decide) rfl (fun ls hl => ?_)
      have hl : lv_has ls 3 [(2, .int (nI (i + 1))), (0, .ref (q 13)), (1, .int (nI k))] := hl
      refine lv_goto (tgt := 2) hx hb dLearners_comeBack_27 (by decide) ?_
      exact ih2 (i + 1) ls H locs (by omega) hl hP hD hS
  exact loop2 n 0 ls s.heap [] (by omega) hl hP hD hS
theorem dLearners_hear_0 : decode cLearners_hear 0 = .ok (.iload_n 3, 1) := by decide +kernel
theorem dLearners_hear_1 : decode cLearners_hear 1 = .ok (.aload_n 0, 1) := by decide +kernel
theorem dLearners_hear_2 : decode cLearners_hear 2 = .ok (.iload_n 1, 1) := by decide +kernel
theorem dLearners_hear_3 : decode cLearners_hear 3 = .ok (.iload_n 2, 1) := by decide +kernel
theorem dLearners_hear_4 : decode cLearners_hear 4 = .ok (.invokevirtual 28, 3) := by decide +kernel
theorem dLearners_hear_7 : decode cLearners_hear 7 = .ok (.if_icmp .gt 4, 3) := by decide +kernel
theorem dLearners_hear_10 : decode cLearners_hear 10 = .ok (.return_, 1) := by decide +kernel
theorem dLearners_hear_11 : decode cLearners_hear 11 = .ok (.aload_n 0, 1) := by decide +kernel
theorem dLearners_hear_12 : decode cLearners_hear 12 = .ok (.getfield 15, 3) := by decide +kernel
theorem dLearners_hear_15 : decode cLearners_hear 15 = .ok (.iload_n 1, 1) := by decide +kernel
theorem dLearners_hear_16 : decode cLearners_hear 16 = .ok (.aload_n 0, 1) := by decide +kernel
theorem dLearners_hear_17 : decode cLearners_hear 17 = .ok (.getfield 9, 3) := by decide +kernel
theorem dLearners_hear_20 : decode cLearners_hear 20 = .ok (.imul, 1) := by decide +kernel
theorem dLearners_hear_21 : decode cLearners_hear 21 = .ok (.iload_n 2, 1) := by decide +kernel
theorem dLearners_hear_22 : decode cLearners_hear 22 = .ok (.iadd, 1) := by decide +kernel
theorem dLearners_hear_23 : decode cLearners_hear 23 = .ok (.iload_n 3, 1) := by decide +kernel
theorem dLearners_hear_24 : decode cLearners_hear 24 = .ok (.iastore, 1) := by decide +kernel
theorem dLearners_hear_25 : decode cLearners_hear 25 = .ok (.aload_n 0, 1) := by decide +kernel
theorem dLearners_hear_26 : decode cLearners_hear 26 = .ok (.iload_n 1, 1) := by decide +kernel
theorem dLearners_hear_27 : decode cLearners_hear 27 = .ok (.iload_n 3, 1) := by decide +kernel
theorem dLearners_hear_28 : decode cLearners_hear 28 = .ok (.invokevirtual 32, 3) := by decide +kernel
theorem dLearners_hear_31 : decode cLearners_hear 31 = .ok (.aload_n 0, 1) := by decide +kernel
theorem dLearners_hear_32 : decode cLearners_hear 32 = .ok (.getfield 9, 3) := by decide +kernel
theorem dLearners_hear_35 : decode cLearners_hear 35 = .ok (.invokestatic 35, 3) := by decide +kernel
theorem dLearners_hear_38 : decode cLearners_hear 38 = .ok (.ifCond .eq 10, 3) := by decide +kernel
theorem dLearners_hear_41 : decode cLearners_hear 41 = .ok (.aload_n 0, 1) := by decide +kernel
theorem dLearners_hear_42 : decode cLearners_hear 42 = .ok (.iload_n 1, 1) := by decide +kernel
theorem dLearners_hear_43 : decode cLearners_hear 43 = .ok (.iload 4, 2) := by decide +kernel
theorem dLearners_hear_45 : decode cLearners_hear 45 = .ok (.invokevirtual 39, 3) := by decide +kernel
theorem dLearners_hear_48 : decode cLearners_hear 48 = .ok (.return_, 1) := by decide +kernel
set_option maxRecDepth 100000 in
set_option maxHeartbeats 4000000 in
theorem c_hear (l : Launch) (D : va_G) (cI cZ : ClassId) (q : Nat → Nat) (n : Nat) (L : Nat) (f9 : Nat → Int32) (f10 : Nat → Int32) (k : Nat) (j : Nat) (b : Int32) (v : Int32) (hL20 : L ≤ 20) (hn5 : n ≤ 5) (hkL : k < L) (hjn : j < n) : MV l D [(cI, .int), (cZ, .boolean)] yLearners_hear wsLearners_hear ({ frames := 2, cells := 0, slots := 0, locals := 46 }) [.ref (q 13), .int (nI k), .int (nI j), .int b, .int v] (wLe q cI n L f9 f10) (fun w => ((¬ f9 (k * n + j) < b) ∧ w = (wLe q cI n L f9 f10)) ∨ ((f9 (k * n + j) < b ∧ ¬ n < 2 * cntE (fun i => (upd f9 (k * n + j) b) (k * n + i)) b n) ∧ w = (wLe q cI n L (upd f9 (k * n + j) b) f10)) ∨ ((f9 (k * n + j) < b ∧ n < 2 * cntE (fun i => (upd f9 (k * n + j) b) (k * n + i)) b n) ∧ w = (wLe q cI n L (upd f9 (k * n + j) b) (if f10 k = 0 then upd f10 k v else f10)))) := by
  intro sz
  refine Met.ofW (cc := cLearners_hear) (maxL := 5) (ret := (Option.none : Option ClassFile.FieldType)) (by decide) rfl ?_
  intro p e s m args below meth c s₁ B hml hv
  obtain ⟨rfl, hsz, hP, hK, hD0, hZ⟩ := hv
  have hx := B.exec
  have hb := B.bytes
  have hr := B.returns
  have hts := atoms_spec (ws := wsLearners_hear) B.pre
  have hown : s.vm.findClass RLearners = some m.cls := findClass_of_methodNamed B.named
  have hlocks := B.notSynchronized
  subst hsz
  have hD := hD0.self (sz := s.heap.size)
  generalize hAe : va_A (wLe q cI n L f9 f10) s.heap.size = A at hD ⊢
  have hA : ∀ q : Nat, s.heap.size ≤ q → A q := fun q h => by rw [← hAe]; exact Or.inr h
  have hS : va_S A s.heap s.heap [] := va_S.rf
  have hP : va_P D vwCl (wLe q cI n L f9 f10) s.heap := hP
  have hl := lv_entry ([.ref (q 13), .int (nI k), .int (nI j), .int b, .int v]) (n := 5) (Nat.le_of_ble_eq_true rfl)
  rw [lg_entry_eq]
  generalize (lg_sl ([.ref (q 13), .int (nI k), .int (nI j), .int b, .int v]) ++ List.replicate (5 - (lg_sl ([.ref (q 13), .int (nI k), .int (nI j), .int b, .int v])).length) Slot.unset).toArray = ls at hl ⊢
  have hl : lv_has ls 5 [(0, .ref (q 13)), (1, .int (nI k)), (2, .int (nI j)), (3, .int b), (4, .int v)] := hl
  refine lv_iload_n hx hb dLearners_hear_0 rfl (lv_at hl 3 rfl) ?_
  refine lv_aload_n hx hb dLearners_hear_1 rfl (lv_at hl 0 rfl) ?_
  refine lv_iload_n hx hb dLearners_hear_2 rfl (lv_at hl 1 rfl) ?_
  refine lv_iload_n hx hb dLearners_hear_3 rfl (lv_at hl 2 rfl) ?_
  have hPc := hP.sub (ws' := (wLe q cI n L f9 f10)) [0, 1, 2] rfl
  have hDc := hD.sub (ws' := (wLe q cI n L f9 f10)) [0, 1, 2] (by decide) rfl
  refine kx_i (va_runV (As := [.int (nI k), .int (nI j)]) (rest := [.int b]) ⟨hx, hb, hml, hown, hts⟩ ((c_ballotOf l D cI cZ q n L f9 f10 k j (hL20) (hn5) (hkL) (hjn)) s.heap.size) (cwV 2 hts (gV wd265 wd266 wd267 wd6 wd268) rfl rfl rfl (by decide +kernel) ⟨Nat.le_of_ble_eq_true rfl, Nat.le_of_ble_eq_true rfl⟩) ⟨fb_PW, va_recv (q0 := 0) (ci := 4) hK hPc rfl rfl, pre_PW hK hPc hDc hZ⟩ rfl rfl hl.1 rfl (lv_room (Nat.le_of_ble_eq_true rfl)) dLearners_hear_4 ⟨Nat.zero_le _, Nat.zero_le _⟩) hP hD hS hA [0, 1, 2] [] rfl rfl (by decide) (by decide) (fun r w1 H locs hw hP hD hS => ?_)
  obtain ⟨rfl, rfl⟩ := hw
  have hP : va_P D vwCl (wLe q cI n L f9 f10) H := hP
  have hD : va_D A (wLe q cI n L f9 f10) := hD
  refine lv_icmp_gt (tgt := 11) hx hb dLearners_hear_7 (by decide) (fun c7 => ?_) (fun c7 => ?_)
  · refine lv_aload_n hx hb dLearners_hear_11 rfl (lv_at hl 0 rfl) ?_
    refine va_get (D := D) (ci := 4) (v := .ref (q 14)) (C := RLearners) (T := TLearners) (N := 3) hx hb hts (fun w h => mc (uLearners_in w h)) hown hK hP 0 rfl rfl 1 (by decide) (hts _ (mc wd96)) (fun _ h9 => h9) rfl dLearners_hear_12 ?_
    refine lv_iload_n hx hb dLearners_hear_15 rfl (lv_at hl 1 rfl) ?_
    refine lv_aload_n hx hb dLearners_hear_16 rfl (lv_at hl 0 rfl) ?_
    refine va_get (D := D) (ci := 4) (v := .int (nI n)) (C := RLearners) (T := TLearners) (N := 3) hx hb hts (fun w h => mc (uLearners_in w h)) hown hK hP 0 rfl rfl 0 (by decide) (hts _ (mc wd95)) (fun _ h9 => h9) rfl dLearners_hear_17 ?_
    refine lv_imul hx hb dLearners_hear_20 ?_
    refine lv_topi (nm_r (pk_mul _ _) ?_)
    refine lv_iload_n hx hb dLearners_hear_21 rfl (lv_at hl 2 rfl) ?_
    refine lv_iadd hx hb dLearners_hear_22 ?_
    refine lv_topi (nm_r (nI_add _ _) ?_)
    refine lv_iload_n hx hb dLearners_hear_23 rfl (lv_at hl 3 rfl) ?_
    refine ka_st (f' := upd f9 (k * n + j) b) hx hb hK hP hD hS 1 0 rfl rfl (seat_lt hkL hjn) (by have := Nat.mul_le_mul hL20 hn5; omega) rfl dLearners_hear_24 (fun H locs hP hD hS => ?_)
    have hP : va_P D vwCl (wLe q cI n L (upd f9 (k * n + j) b) f10) H := hP
    have hD : va_D A (wLe q cI n L (upd f9 (k * n + j) b) f10) := hD
    refine lv_aload_n hx hb dLearners_hear_25 rfl (lv_at hl 0 rfl) ?_
    refine lv_iload_n hx hb dLearners_hear_26 rfl (lv_at hl 1 rfl) ?_
    refine lv_iload_n hx hb dLearners_hear_27 rfl (lv_at hl 3 rfl) ?_
    have hPc := hP.sub (ws' := (wLe q cI n L (upd f9 (k * n + j) b) f10)) [0, 1, 2] rfl
    have hDc := hD.sub (ws' := (wLe q cI n L (upd f9 (k * n + j) b) f10)) [0, 1, 2] (by decide) rfl
    refine kx_i (va_runV (As := [.int (nI k), .int b]) (rest := []) ⟨hx, hb, hml, hown, hts⟩ ((c_nodesHeardWith l D cI cZ q n L (upd f9 (k * n + j) b) f10 k b (hL20) (hn5) (hkL)) H.size) (cwV 2 hts (gV wd269 wd271 sl_Learners_nodesHeardWith wd6 wd272) rfl rfl rfl (by decide +kernel) ⟨Nat.le_of_ble_eq_true rfl, Nat.le_of_ble_eq_true rfl⟩) ⟨fb_PW, va_recv (q0 := 0) (ci := 4) hK hPc rfl rfl, pre_PW hK hPc hDc hZ⟩ rfl rfl hl.1 rfl (lv_room (Nat.le_of_ble_eq_true rfl)) dLearners_hear_28 ⟨Nat.zero_le _, Nat.zero_le _⟩) hP hD hS hA [0, 1, 2] [] rfl rfl (by decide) (by decide) (fun r w1 H locs hw hP hD hS => ?_)
    obtain ⟨rfl, rfl⟩ := hw
    have hP : va_P D vwCl (wLe q cI n L (upd f9 (k * n + j) b) f10) H := hP
    have hD : va_D A (wLe q cI n L (upd f9 (k * n + j) b) f10) := hD
    refine lv_aload_n hx hb dLearners_hear_31 rfl (lv_at hl 0 rfl) ?_
    refine va_get (D := D) (ci := 4) (v := .int (nI n)) (C := RLearners) (T := TLearners) (N := 3) hx hb hts (fun w h => mc (uLearners_in w h)) hown hK hP 0 rfl rfl 0 (by decide) (hts _ (mc wd95)) (fun _ h9 => h9) rfl dLearners_hear_32 ?_
    have hPc := hP.sub (ws' := ([] : va_W)) [] rfl
    have hDc := hD.sub (ws' := ([] : va_W)) [] (by decide) rfl
    refine kx_i (va_runSN (As := [.int (nI (cntE (fun i => (upd f9 (k * n + j) b) (k * n + i)) b n)), .int (nI n)]) (rest := []) ⟨hx, hb, hml, hown, hts⟩ ((c_isMajority l D cI cZ (cntE (fun i => (upd f9 (k * n + j) b) (k * n + i)) b n) n (Nat.le_trans (cntE_le _ _ _) hn5) (hn5)) H.size) ⟨va_cnB 2 hts (gC wd219) rfl rfl rfl (hZ.n3) (hts _ (mc wd1)) (by decide +kernel) ⟨Nat.le_of_ble_eq_true rfl, Nat.le_of_ble_eq_true rfl⟩, hts _ (mc wd218), trivial⟩ ⟨fb_PW, pre_PW hK hPc hDc hZ⟩ rfl rfl hl.1 rfl (lv_room (Nat.le_of_ble_eq_true rfl)) dLearners_hear_35 ⟨Nat.zero_le _, Nat.zero_le _⟩) hP hD hS hA [] [0, 1, 2] rfl rfl (by decide) (by decide) (fun r w1 H locs hw hP hD hS => ?_)
    rcases hw with ⟨rfl, h35, rfl⟩ | ⟨rfl, h35, rfl⟩
    · have hP : va_P D vwCl (wLe q cI n L (upd f9 (k * n + j) b) f10) H := hP
      have hD : va_D A (wLe q cI n L (upd f9 (k * n + j) b) f10) := hD
      refine lv_if_eq (tgt := 48) hx hb dLearners_hear_38 (by decide) (fun h9 => absurd h9 (by decide)) (fun _ => ?_)
      refine lv_aload_n hx hb dLearners_hear_41 rfl (lv_at hl 0 rfl) ?_
      refine lv_iload_n hx hb dLearners_hear_42 rfl (lv_at hl 1 rfl) ?_
      refine lv_iload hx hb dLearners_hear_43 (lv_at hl 4 rfl) ?_
      have hPc := hP.sub (ws' := (wLe q cI n L (upd f9 (k * n + j) b) f10)) [0, 1, 2] rfl
      have hDc := hD.sub (ws' := (wLe q cI n L (upd f9 (k * n + j) b) f10)) [0, 1, 2] (by decide) rfl
      refine kx_v (va_runV (As := [.int (nI k), .int v]) (rest := []) ⟨hx, hb, hml, hown, hts⟩ ((c_learn l D cI cZ q n L (upd f9 (k * n + j) b) f10 k v (hL20) (hkL)) H.size) (cwV 2 hts (gV wd274 wd275 wd276 wd6 wd277) rfl rfl rfl (by decide +kernel) ⟨Nat.le_of_ble_eq_true rfl, Nat.le_of_ble_eq_true rfl⟩) ⟨fb_PW, va_recv (q0 := 0) (ci := 4) hK hPc rfl rfl, pre_PW hK hPc hDc hZ⟩ rfl rfl hl.1 rfl (lv_room (Nat.le_of_ble_eq_true rfl)) dLearners_hear_45 ⟨Nat.zero_le _, Nat.zero_le _⟩) hP hD hS hA [0, 1, 2] [] rfl rfl (by decide) (by decide) (fun w1 H locs hw hP hD hS => ?_)
      obtain rfl := hw
      have hP : va_P D vwCl (wLe q cI n L (upd f9 (k * n + j) b) (if f10 k = 0 then upd f10 k v else f10)) H := hP
      have hD : va_D A (wLe q cI n L (upd f9 (k * n + j) b) (if f10 k = 0 then upd f10 k v else f10)) := hD
      exact W.vret hx hb hr (fun t9 ht9 hW9 => ⟨⟨(wLe q cI n L (upd f9 (k * n + j) b) (if f10 k = 0 then upd f10 k v else f10)), rfl, Or.inr (Or.inr ⟨⟨c7, h35⟩, rfl⟩), by rw [ht9]; exact hP, va_K.moved hW9.alike hK, hD⟩, hS.F ht9⟩) hS.2.2 dLearners_hear_48
    · have hP : va_P D vwCl (wLe q cI n L (upd f9 (k * n + j) b) f10) H := hP
      have hD : va_D A (wLe q cI n L (upd f9 (k * n + j) b) f10) := hD
      refine lv_if_eq (tgt := 48) hx hb dLearners_hear_38 (by decide) (fun _ => ?_) (fun h9 => absurd (by decide) h9)
      exact W.vret hx hb hr (fun t9 ht9 hW9 => ⟨⟨(wLe q cI n L (upd f9 (k * n + j) b) f10), rfl, Or.inr (Or.inl ⟨⟨c7, h35⟩, rfl⟩), by rw [ht9]; exact hP, va_K.moved hW9.alike hK, hD⟩, hS.F ht9⟩) hS.2.2 dLearners_hear_48
  · exact W.vret hx hb hr (fun t9 ht9 hW9 => ⟨⟨(wLe q cI n L f9 f10), rfl, Or.inl ⟨c7, rfl⟩, by rw [ht9]; exact hP, va_K.moved hW9.alike hK, hD⟩, hS.F ht9⟩) hS.2.2 dLearners_hear_10
