theorem dModel_isNode_0 : decode cModel_isNode 0 = .ok (.iload_n 1, 1) := by decide +kernel
theorem dModel_isNode_1 : decode cModel_isNode 1 = .ok (.ifCond .lt 15, 3) := by decide +kernel
theorem dModel_isNode_4 : decode cModel_isNode 4 = .ok (.iload_n 1, 1) := by decide +kernel
theorem dModel_isNode_5 : decode cModel_isNode 5 = .ok (.aload_n 0, 1) := by decide +kernel
theorem dModel_isNode_6 : decode cModel_isNode 6 = .ok (.getfield 71, 3) := by decide +kernel
theorem dModel_isNode_9 : decode cModel_isNode 9 = .ok (.if_icmp .ge 7, 3) := by decide +kernel
theorem dModel_isNode_12 : decode cModel_isNode 12 = .ok (.iconst 1, 1) := by decide +kernel
theorem dModel_isNode_13 : decode cModel_isNode 13 = .ok (.goto 4, 3) := by decide +kernel
theorem dModel_isNode_16 : decode cModel_isNode 16 = .ok (.iconst 0, 1) := by decide +kernel
theorem dModel_isNode_17 : decode cModel_isNode 17 = .ok (.ireturn, 1) := by decide +kernel
set_option maxRecDepth 100000 in
set_option maxHeartbeats 4000000 in
theorem m_isNode (l : Launch) (D : va_G) (cI cZ : ClassId) (qm : Nat → Nat) (n : Nat) (S : Nat) (P : Nat) (x : St) (v : Int32) (hn1 : 1 ≤ n) (hn5 : n ≤ 5) (hS1 : 1 ≤ S) (hS4 : S ≤ 4) (hP5 : 5 ≤ P) (hP64 : P ≤ 64) : MI l D [(cI, .int), (cZ, .boolean)] yModel_isNode wsModel_isNode ({ frames := 0, cells := 0, slots := 0, locals := 0 }) [.ref (qm 0), .int v] (wM qm cI cZ n S P x) (fun r w => (r = nI 1 ∧ (okN v n) ∧ w = (wM qm cI cZ n S P x)) ∨ (r = nI 0 ∧ (¬ (okN v n)) ∧ w = (wM qm cI cZ n S P x))) := by
  intro sz
  refine Met.ofW (cc := cModel_isNode) (maxL := 2) (ret := (Option.some .boolean)) (by decide) rfl ?_
  intro p e s m args below meth c s₁ B hml hv
  obtain ⟨rfl, hsz, hP, hK, hD0, hZ⟩ := hv
  have hx := B.exec
  have hb := B.bytes
  have hr := B.returns
  have hts := atoms_spec (ws := wsModel_isNode) B.pre
  have hown : s.vm.findClass RModel = some m.cls := findClass_of_methodNamed B.named
  have hlocks := B.notSynchronized
  subst hsz
  have hD := hD0.self (sz := s.heap.size)
  generalize hAe : va_A (wM qm cI cZ n S P x) s.heap.size = A at hD ⊢
  have hA : ∀ q : Nat, s.heap.size ≤ q → A q := fun q h => by rw [← hAe]; exact Or.inr h
  have hS : va_S A s.heap s.heap [] := va_S.rf
  have hP : va_P D vwCl (wM qm cI cZ n S P x) s.heap := hP
  have hl := lv_entry ([.ref (qm 0), .int v]) (n := 2) (Nat.le_of_ble_eq_true rfl)
  rw [lg_entry_eq]
  generalize (lg_sl ([.ref (qm 0), .int v]) ++ List.replicate (2 - (lg_sl ([.ref (qm 0), .int v])).length) Slot.unset).toArray = ls at hl ⊢
  have hl : lv_has ls 2 [(0, .ref (qm 0)), (1, .int v)] := hl
  refine lv_iload_n hx hb dModel_isNode_0 rfl (lv_at hl 1 rfl) ?_
  refine lv_if_lt (tgt := 16) hx hb dModel_isNode_1 (by decide) (fun c1 => ?_) (fun c1 => ?_)
  · refine lv_iconst (v := nI 0) hx hb dModel_isNode_16 (by decide) ?_
    exact W.zret (v := nI 0) (ty := .boolean) hx hb hr (by decide) (fun t9 ht9 hW9 => ⟨⟨nI 0, (wM qm cI cZ n S P x), rfl, Or.inr ⟨rfl, fun h => absurd h.1 (Int32.not_le.mpr c1), rfl⟩, by rw [ht9]; exact hP, va_K.moved hW9.alike hK, hD⟩, hS.F ht9⟩) hS.2.2 dModel_isNode_17
  · refine lv_iload_n hx hb dModel_isNode_4 rfl (lv_at hl 1 rfl) ?_
    refine lv_aload_n hx hb dModel_isNode_5 rfl (lv_at hl 0 rfl) ?_
    refine va_get (D := D) (ci := 5) (v := .int (nI n)) (C := RModel) (T := TModel) (N := 25) hx hb hts (fun w h => mc (uModel_in w h)) hown hK hP 0 rfl rfl 0 (by decide) (hts _ (mc wd405)) (fun _ h9 => h9) rfl dModel_isNode_6 ?_
    refine lv_icmp_ge (tgt := 16) hx hb dModel_isNode_9 (by decide) (fun c9 => ?_) (fun c9 => ?_)
    · refine lv_iconst (v := nI 0) hx hb dModel_isNode_16 (by decide) ?_
      exact W.zret (v := nI 0) (ty := .boolean) hx hb hr (by decide) (fun t9 ht9 hW9 => ⟨⟨nI 0, (wM qm cI cZ n S P x), rfl, Or.inr ⟨rfl, fun h => absurd h.2 (Int32.not_lt.mpr c9), rfl⟩, by rw [ht9]; exact hP, va_K.moved hW9.alike hK, hD⟩, hS.F ht9⟩) hS.2.2 dModel_isNode_17
    · refine lv_iconst (v := nI 1) hx hb dModel_isNode_12 (by decide) ?_
      refine lv_goto (tgt := 17) hx hb dModel_isNode_13 (by decide) ?_
      exact W.zret (v := nI 1) (ty := .boolean) hx hb hr (by decide) (fun t9 ht9 hW9 => ⟨⟨nI 1, (wM qm cI cZ n S P x), rfl, Or.inl ⟨rfl, ⟨Int32.not_lt.mp c1, Int32.not_le.mp c9⟩, rfl⟩, by rw [ht9]; exact hP, va_K.moved hW9.alike hK, hD⟩, hS.F ht9⟩) hS.2.2 dModel_isNode_17
theorem dModel_isSlot_0 : decode cModel_isSlot 0 = .ok (.iload_n 1, 1) := by decide +kernel
theorem dModel_isSlot_1 : decode cModel_isSlot 1 = .ok (.ifCond .lt 15, 3) := by decide +kernel
theorem dModel_isSlot_4 : decode cModel_isSlot 4 = .ok (.iload_n 1, 1) := by decide +kernel
theorem dModel_isSlot_5 : decode cModel_isSlot 5 = .ok (.aload_n 0, 1) := by decide +kernel
theorem dModel_isSlot_6 : decode cModel_isSlot 6 = .ok (.getfield 75, 3) := by decide +kernel
theorem dModel_isSlot_9 : decode cModel_isSlot 9 = .ok (.if_icmp .ge 7, 3) := by decide +kernel
theorem dModel_isSlot_12 : decode cModel_isSlot 12 = .ok (.iconst 1, 1) := by decide +kernel
theorem dModel_isSlot_13 : decode cModel_isSlot 13 = .ok (.goto 4, 3) := by decide +kernel
theorem dModel_isSlot_16 : decode cModel_isSlot 16 = .ok (.iconst 0, 1) := by decide +kernel
theorem dModel_isSlot_17 : decode cModel_isSlot 17 = .ok (.ireturn, 1) := by decide +kernel
set_option maxRecDepth 100000 in
set_option maxHeartbeats 4000000 in
theorem m_isSlot (l : Launch) (D : va_G) (cI cZ : ClassId) (qm : Nat → Nat) (n : Nat) (S : Nat) (P : Nat) (x : St) (v : Int32) (hn1 : 1 ≤ n) (hn5 : n ≤ 5) (hS1 : 1 ≤ S) (hS4 : S ≤ 4) (hP5 : 5 ≤ P) (hP64 : P ≤ 64) : MI l D [(cI, .int), (cZ, .boolean)] yModel_isSlot wsModel_isSlot ({ frames := 0, cells := 0, slots := 0, locals := 0 }) [.ref (qm 0), .int v] (wM qm cI cZ n S P x) (fun r w => (r = nI 1 ∧ (okN v S) ∧ w = (wM qm cI cZ n S P x)) ∨ (r = nI 0 ∧ (¬ (okN v S)) ∧ w = (wM qm cI cZ n S P x))) := by
  intro sz
  refine Met.ofW (cc := cModel_isSlot) (maxL := 2) (ret := (Option.some .boolean)) (by decide) rfl ?_
  intro p e s m args below meth c s₁ B hml hv
  obtain ⟨rfl, hsz, hP, hK, hD0, hZ⟩ := hv
  have hx := B.exec
  have hb := B.bytes
  have hr := B.returns
  have hts := atoms_spec (ws := wsModel_isSlot) B.pre
  have hown : s.vm.findClass RModel = some m.cls := findClass_of_methodNamed B.named
  have hlocks := B.notSynchronized
  subst hsz
  have hD := hD0.self (sz := s.heap.size)
  generalize hAe : va_A (wM qm cI cZ n S P x) s.heap.size = A at hD ⊢
  have hA : ∀ q : Nat, s.heap.size ≤ q → A q := fun q h => by rw [← hAe]; exact Or.inr h
  have hS : va_S A s.heap s.heap [] := va_S.rf
  have hP : va_P D vwCl (wM qm cI cZ n S P x) s.heap := hP
  have hl := lv_entry ([.ref (qm 0), .int v]) (n := 2) (Nat.le_of_ble_eq_true rfl)
  rw [lg_entry_eq]
  generalize (lg_sl ([.ref (qm 0), .int v]) ++ List.replicate (2 - (lg_sl ([.ref (qm 0), .int v])).length) Slot.unset).toArray = ls at hl ⊢
  have hl : lv_has ls 2 [(0, .ref (qm 0)), (1, .int v)] := hl
  refine lv_iload_n hx hb dModel_isSlot_0 rfl (lv_at hl 1 rfl) ?_
  refine lv_if_lt (tgt := 16) hx hb dModel_isSlot_1 (by decide) (fun c1 => ?_) (fun c1 => ?_)
  · refine lv_iconst (v := nI 0) hx hb dModel_isSlot_16 (by decide) ?_
    exact W.zret (v := nI 0) (ty := .boolean) hx hb hr (by decide) (fun t9 ht9 hW9 => ⟨⟨nI 0, (wM qm cI cZ n S P x), rfl, Or.inr ⟨rfl, fun h => absurd h.1 (Int32.not_le.mpr c1), rfl⟩, by rw [ht9]; exact hP, va_K.moved hW9.alike hK, hD⟩, hS.F ht9⟩) hS.2.2 dModel_isSlot_17
  · refine lv_iload_n hx hb dModel_isSlot_4 rfl (lv_at hl 1 rfl) ?_
    refine lv_aload_n hx hb dModel_isSlot_5 rfl (lv_at hl 0 rfl) ?_
    refine va_get (D := D) (ci := 5) (v := .int (nI S)) (C := RModel) (T := TModel) (N := 25) hx hb hts (fun w h => mc (uModel_in w h)) hown hK hP 0 rfl rfl 1 (by decide) (hts _ (mc wd406)) (fun _ h9 => h9) rfl dModel_isSlot_6 ?_
    refine lv_icmp_ge (tgt := 16) hx hb dModel_isSlot_9 (by decide) (fun c9 => ?_) (fun c9 => ?_)
    · refine lv_iconst (v := nI 0) hx hb dModel_isSlot_16 (by decide) ?_
      exact W.zret (v := nI 0) (ty := .boolean) hx hb hr (by decide) (fun t9 ht9 hW9 => ⟨⟨nI 0, (wM qm cI cZ n S P x), rfl, Or.inr ⟨rfl, fun h => absurd h.2 (Int32.not_lt.mpr c9), rfl⟩, by rw [ht9]; exact hP, va_K.moved hW9.alike hK, hD⟩, hS.F ht9⟩) hS.2.2 dModel_isSlot_17
    · refine lv_iconst (v := nI 1) hx hb dModel_isSlot_12 (by decide) ?_
      refine lv_goto (tgt := 17) hx hb dModel_isSlot_13 (by decide) ?_
      exact W.zret (v := nI 1) (ty := .boolean) hx hb hr (by decide) (fun t9 ht9 hW9 => ⟨⟨nI 1, (wM qm cI cZ n S P x), rfl, Or.inl ⟨rfl, ⟨Int32.not_lt.mp c1, Int32.not_le.mp c9⟩, rfl⟩, by rw [ht9]; exact hP, va_K.moved hW9.alike hK, hD⟩, hS.F ht9⟩) hS.2.2 dModel_isSlot_17
theorem dModel_isMessage_0 : decode cModel_isMessage 0 = .ok (.iload_n 1, 1) := by decide +kernel
theorem dModel_isMessage_1 : decode cModel_isMessage 1 = .ok (.ifCond .lt 24, 3) := by decide +kernel
theorem dModel_isMessage_4 : decode cModel_isMessage 4 = .ok (.iload_n 1, 1) := by decide +kernel
theorem dModel_isMessage_5 : decode cModel_isMessage 5 = .ok (.aload_n 0, 1) := by decide +kernel
theorem dModel_isMessage_6 : decode cModel_isMessage 6 = .ok (.getfield 78, 3) := by decide +kernel
theorem dModel_isMessage_9 : decode cModel_isMessage 9 = .ok (.if_icmp .ge 16, 3) := by decide +kernel
theorem dModel_isMessage_12 : decode cModel_isMessage 12 = .ok (.aload_n 0, 1) := by decide +kernel
theorem dModel_isMessage_13 : decode cModel_isMessage 13 = .ok (.getfield 13, 3) := by decide +kernel
theorem dModel_isMessage_16 : decode cModel_isMessage 16 = .ok (.iload_n 1, 1) := by decide +kernel
theorem dModel_isMessage_17 : decode cModel_isMessage 17 = .ok (.iaload, 1) := by decide +kernel
theorem dModel_isMessage_18 : decode cModel_isMessage 18 = .ok (.ifCond .le 7, 3) := by decide +kernel
theorem dModel_isMessage_21 : decode cModel_isMessage 21 = .ok (.iconst 1, 1) := by decide +kernel
theorem dModel_isMessage_22 : decode cModel_isMessage 22 = .ok (.goto 4, 3) := by decide +kernel
theorem dModel_isMessage_25 : decode cModel_isMessage 25 = .ok (.iconst 0, 1) := by decide +kernel
theorem dModel_isMessage_26 : decode cModel_isMessage 26 = .ok (.ireturn, 1) := by decide +kernel
set_option maxRecDepth 100000 in
set_option maxHeartbeats 4000000 in
theorem m_isMessage (l : Launch) (D : va_G) (cI cZ : ClassId) (qm : Nat → Nat) (n : Nat) (S : Nat) (P : Nat) (x : St) (v : Int32) (hn1 : 1 ≤ n) (hn5 : n ≤ 5) (hS1 : 1 ≤ S) (hS4 : S ≤ 4) (hP5 : 5 ≤ P) (hP64 : P ≤ 64) (hM : Imsg n S x) : MI l D [(cI, .int), (cZ, .boolean)] yModel_isMessage wsModel_isMessage ({ frames := 0, cells := 0, slots := 0, locals := 0 }) [.ref (qm 0), .int v] (wM qm cI cZ n S P x) (fun r w => (r = nI 1 ∧ (isM P x v) ∧ w = (wM qm cI cZ n S P x)) ∨ (r = nI 0 ∧ (¬ (isM P x v)) ∧ w = (wM qm cI cZ n S P x))) := by
  intro sz
  refine Met.ofW (cc := cModel_isMessage) (maxL := 2) (ret := (Option.some .boolean)) (by decide) rfl ?_
  intro p e s m args below meth c s₁ B hml hv
  obtain ⟨rfl, hsz, hP, hK, hD0, hZ⟩ := hv
  have hx := B.exec
  have hb := B.bytes
  have hr := B.returns
  have hts := atoms_spec (ws := wsModel_isMessage) B.pre
  have hown : s.vm.findClass RModel = some m.cls := findClass_of_methodNamed B.named
  have hlocks := B.notSynchronized
  subst hsz
  have hD := hD0.self (sz := s.heap.size)
  generalize hAe : va_A (wM qm cI cZ n S P x) s.heap.size = A at hD ⊢
  have hA : ∀ q : Nat, s.heap.size ≤ q → A q := fun q h => by rw [← hAe]; exact Or.inr h
  have hS : va_S A s.heap s.heap [] := va_S.rf
  have hP : va_P D vwCl (wM qm cI cZ n S P x) s.heap := hP
  have hl := lv_entry ([.ref (qm 0), .int v]) (n := 2) (Nat.le_of_ble_eq_true rfl)
  rw [lg_entry_eq]
  generalize (lg_sl ([.ref (qm 0), .int v]) ++ List.replicate (2 - (lg_sl ([.ref (qm 0), .int v])).length) Slot.unset).toArray = ls at hl ⊢
  have hl : lv_has ls 2 [(0, .ref (qm 0)), (1, .int v)] := hl
  refine lv_iload_n hx hb dModel_isMessage_0 rfl (lv_at hl 1 rfl) ?_
  refine lv_if_lt (tgt := 25) hx hb dModel_isMessage_1 (by decide) (fun c1 => ?_) (fun c1 => ?_)
  · refine lv_iconst (v := nI 0) hx hb dModel_isMessage_25 (by decide) ?_
    exact W.zret (v := nI 0) (ty := .boolean) hx hb hr (by decide) (fun t9 ht9 hW9 => ⟨⟨nI 0, (wM qm cI cZ n S P x), rfl, Or.inr ⟨rfl, fun h => absurd h.1.1 (Int32.not_le.mpr c1), rfl⟩, by rw [ht9]; exact hP, va_K.moved hW9.alike hK, hD⟩, hS.F ht9⟩) hS.2.2 dModel_isMessage_26
  · refine lv_iload_n hx hb dModel_isMessage_4 rfl (lv_at hl 1 rfl) ?_
    refine lv_aload_n hx hb dModel_isMessage_5 rfl (lv_at hl 0 rfl) ?_
    refine va_get (D := D) (ci := 5) (v := .int (nI P)) (C := RModel) (T := TModel) (N := 25) hx hb hts (fun w h => mc (uModel_in w h)) hown hK hP 0 rfl rfl 2 (by decide) (hts _ (mc wd407)) (fun _ h9 => h9) rfl dModel_isMessage_6 ?_
    refine lv_icmp_ge (tgt := 25) hx hb dModel_isMessage_9 (by decide) (fun c9 => ?_) (fun c9 => ?_)
    · refine lv_iconst (v := nI 0) hx hb dModel_isMessage_25 (by decide) ?_
      exact W.zret (v := nI 0) (ty := .boolean) hx hb hr (by decide) (fun t9 ht9 hW9 => ⟨⟨nI 0, (wM qm cI cZ n S P x), rfl, Or.inr ⟨rfl, fun h => absurd h.1.2 (Int32.not_lt.mpr c9), rfl⟩, by rw [ht9]; exact hP, va_K.moved hW9.alike hK, hD⟩, hS.F ht9⟩) hS.2.2 dModel_isMessage_26
    · obtain ⟨j, hj, rfl⟩ := okN_of (show P < 2 ^ 31 by omega) ⟨Int32.not_lt.mp c1, Int32.not_le.mp c9⟩
      refine lv_aload_n hx hb dModel_isMessage_12 rfl (lv_at hl 0 rfl) ?_
      refine va_get (D := D) (ci := 5) (v := .ref (qm 2)) (C := RModel) (T := TModel) (N := 25) hx hb hts (fun w h => mc (uModel_in w h)) hown hK hP 0 rfl rfl 4 (by decide) (hts _ (mc wd409)) (fun _ h9 => h9) rfl dModel_isMessage_13 ?_
      refine lv_iload_n hx hb dModel_isMessage_16 rfl (lv_at hl 1 rfl) ?_
      refine ka_ld (v := x.1 0 j 0) hx hb hK hP 2 0 rfl rfl (by omega) (by omega) rfl dModel_isMessage_17 ?_
      refine lv_if_le (tgt := 25) hx hb dModel_isMessage_18 (by decide) (fun c18 => ?_) (fun c18 => ?_)
      · refine lv_iconst (v := nI 0) hx hb dModel_isMessage_25 (by decide) ?_
        exact W.zret (v := nI 0) (ty := .boolean) hx hb hr (by decide) (fun t9 ht9 hW9 => ⟨⟨nI 0, (wM qm cI cZ n S P x), rfl, Or.inr ⟨rfl, fun h => kpos hM (by have h7 := h.2; rw [ix_nI hj (by omega)] at h7; exact h7) c18, rfl⟩, by rw [ht9]; exact hP, va_K.moved hW9.alike hK, hD⟩, hS.F ht9⟩) hS.2.2 dModel_isMessage_26
      · refine lv_iconst (v := nI 1) hx hb dModel_isMessage_21 (by decide) ?_
        refine lv_goto (tgt := 26) hx hb dModel_isMessage_22 (by decide) ?_
        exact W.zret (v := nI 1) (ty := .boolean) hx hb hr (by decide) (fun t9 ht9 hW9 => ⟨⟨nI 1, (wM qm cI cZ n S P x), rfl, Or.inl ⟨rfl, ⟨okN_nI hj (by omega), by rw [ix_nI hj (by omega)]; exact fun e9 => c18 (by rw [e9]; decide)⟩, rfl⟩, by rw [ht9]; exact hP, va_K.moved hW9.alike hK, hD⟩, hS.F ht9⟩) hS.2.2 dModel_isMessage_26
theorem dModel_isMajority_0 : decode cModel_isMajority 0 = .ok (.iconst 2, 1) := by decide +kernel
theorem dModel_isMajority_1 : decode cModel_isMajority 1 = .ok (.iload_n 1, 1) := by decide +kernel
theorem dModel_isMajority_2 : decode cModel_isMajority 2 = .ok (.imul, 1) := by decide +kernel
theorem dModel_isMajority_3 : decode cModel_isMajority 3 = .ok (.aload_n 0, 1) := by decide +kernel
theorem dModel_isMajority_4 : decode cModel_isMajority 4 = .ok (.getfield 71, 3) := by decide +kernel
theorem dModel_isMajority_7 : decode cModel_isMajority 7 = .ok (.if_icmp .le 7, 3) := by decide +kernel
theorem dModel_isMajority_10 : decode cModel_isMajority 10 = .ok (.iconst 1, 1) := by decide +kernel
theorem dModel_isMajority_11 : decode cModel_isMajority 11 = .ok (.goto 4, 3) := by decide +kernel
theorem dModel_isMajority_14 : decode cModel_isMajority 14 = .ok (.iconst 0, 1) := by decide +kernel
theorem dModel_isMajority_15 : decode cModel_isMajority 15 = .ok (.ireturn, 1) := by decide +kernel
set_option maxRecDepth 100000 in
set_option maxHeartbeats 4000000 in
theorem m_isMajority (l : Launch) (D : va_G) (cI cZ : ClassId) (qm : Nat → Nat) (n : Nat) (S : Nat) (P : Nat) (x : St) (k : Nat) (hn1 : 1 ≤ n) (hn5 : n ≤ 5) (hS1 : 1 ≤ S) (hS4 : S ≤ 4) (hP5 : 5 ≤ P) (hP64 : P ≤ 64) (hk5 : k ≤ 5) : MI l D [(cI, .int), (cZ, .boolean)] yModel_isMajority wsModel_isMajority ({ frames := 0, cells := 0, slots := 0, locals := 0 }) [.ref (qm 0), .int (nI k)] (wM qm cI cZ n S P x) (fun r w => (r = nI 1 ∧ (n < 2 * k) ∧ w = (wM qm cI cZ n S P x)) ∨ (r = nI 0 ∧ (¬ (n < 2 * k)) ∧ w = (wM qm cI cZ n S P x))) := by
  intro sz
  refine Met.ofW (cc := cModel_isMajority) (maxL := 2) (ret := (Option.some .boolean)) (by decide) rfl ?_
  intro p e s m args below meth c s₁ B hml hv
  obtain ⟨rfl, hsz, hP, hK, hD0, hZ⟩ := hv
  have hx := B.exec
  have hb := B.bytes
  have hr := B.returns
  have hts := atoms_spec (ws := wsModel_isMajority) B.pre
  have hown : s.vm.findClass RModel = some m.cls := findClass_of_methodNamed B.named
  have hlocks := B.notSynchronized
  subst hsz
  have hD := hD0.self (sz := s.heap.size)
  generalize hAe : va_A (wM qm cI cZ n S P x) s.heap.size = A at hD ⊢
  have hA : ∀ q : Nat, s.heap.size ≤ q → A q := fun q h => by rw [← hAe]; exact Or.inr h
  have hS : va_S A s.heap s.heap [] := va_S.rf
  have hP : va_P D vwCl (wM qm cI cZ n S P x) s.heap := hP
  have hl := lv_entry ([.ref (qm 0), .int (nI k)]) (n := 2) (Nat.le_of_ble_eq_true rfl)
  rw [lg_entry_eq]
  generalize (lg_sl ([.ref (qm 0), .int (nI k)]) ++ List.replicate (2 - (lg_sl ([.ref (qm 0), .int (nI k)])).length) Slot.unset).toArray = ls at hl ⊢
  have hl : lv_has ls 2 [(0, .ref (qm 0)), (1, .int (nI k))] := hl
  refine lv_iconst (v := nI 2) hx hb dModel_isMajority_0 (by decide) ?_
  refine lv_iload_n hx hb dModel_isMajority_1 rfl (lv_at hl 1 rfl) ?_
  refine lv_imul hx hb dModel_isMajority_2 ?_
  refine lv_topi (nm_r (pk_mul _ _) ?_)
  refine lv_aload_n hx hb dModel_isMajority_3 rfl (lv_at hl 0 rfl) ?_
  refine va_get (D := D) (ci := 5) (v := .int (nI n)) (C := RModel) (T := TModel) (N := 25) hx hb hts (fun w h => mc (uModel_in w h)) hown hK hP 0 rfl rfl 0 (by decide) (hts _ (mc wd405)) (fun _ h9 => h9) rfl dModel_isMajority_4 ?_
  refine lv_icmp_le (tgt := 14) hx hb dModel_isMajority_7 (by decide) (fun c7 => ?_) (fun c7 => ?_)
  · refine lv_iconst (v := nI 0) hx hb dModel_isMajority_14 (by decide) ?_
    exact W.zret (v := nI 0) (ty := .boolean) hx hb hr (by decide) (fun t9 ht9 hW9 => ⟨⟨nI 0, (wM qm cI cZ n S P x), rfl, Or.inr ⟨rfl, fun h => absurd c7 (nI_ge h (by omega)), rfl⟩, by rw [ht9]; exact hP, va_K.moved hW9.alike hK, hD⟩, hS.F ht9⟩) hS.2.2 dModel_isMajority_15
  · refine lv_iconst (v := nI 1) hx hb dModel_isMajority_10 (by decide) ?_
    refine lv_goto (tgt := 15) hx hb dModel_isMajority_11 (by decide) ?_
    exact W.zret (v := nI 1) (ty := .boolean) hx hb hr (by decide) (fun t9 ht9 hW9 => ⟨⟨nI 1, (wM qm cI cZ n S P x), rfl, Or.inl ⟨rfl, Nat.lt_of_not_le (fun q => c7 (nI_le q (by omega))), rfl⟩, by rw [ht9]; exact hP, va_K.moved hW9.alike hK, hD⟩, hS.F ht9⟩) hS.2.2 dModel_isMajority_15
theorem dModel_empty_0 : decode cModel_empty 0 = .ok (.iconst 0, 1) := by decide +kernel
theorem dModel_empty_1 : decode cModel_empty 1 = .ok (.istore_n 1, 1) := by decide +kernel
theorem dModel_empty_2 : decode cModel_empty 2 = .ok (.iconst 0, 1) := by decide +kernel
theorem dModel_empty_3 : decode cModel_empty 3 = .ok (.istore_n 2, 1) := by decide +kernel
theorem dModel_empty_4 : decode cModel_empty 4 = .ok (.iload_n 2, 1) := by decide +kernel
theorem dModel_empty_5 : decode cModel_empty 5 = .ok (.aload_n 0, 1) := by decide +kernel
theorem dModel_empty_6 : decode cModel_empty 6 = .ok (.getfield 78, 3) := by decide +kernel
theorem dModel_empty_9 : decode cModel_empty 9 = .ok (.if_icmp .ge 26, 3) := by decide +kernel
theorem dModel_empty_12 : decode cModel_empty 12 = .ok (.aload_n 0, 1) := by decide +kernel
theorem dModel_empty_13 : decode cModel_empty 13 = .ok (.getfield 13, 3) := by decide +kernel
theorem dModel_empty_16 : decode cModel_empty 16 = .ok (.iload_n 2, 1) := by decide +kernel
theorem dModel_empty_17 : decode cModel_empty 17 = .ok (.iaload, 1) := by decide +kernel
theorem dModel_empty_18 : decode cModel_empty 18 = .ok (.ifCond .ne 9, 3) := by decide +kernel
theorem dModel_empty_21 : decode cModel_empty 21 = .ok (.iload_n 1, 1) := by decide +kernel
theorem dModel_empty_22 : decode cModel_empty 22 = .ok (.iconst 1, 1) := by decide +kernel
theorem dModel_empty_23 : decode cModel_empty 23 = .ok (.iadd, 1) := by decide +kernel
theorem dModel_empty_24 : decode cModel_empty 24 = .ok (.goto 4, 3) := by decide +kernel
theorem dModel_empty_27 : decode cModel_empty 27 = .ok (.iload_n 1, 1) := by decide +kernel
theorem dModel_empty_28 : decode cModel_empty 28 = .ok (.istore_n 1, 1) := by decide +kernel
theorem dModel_empty_29 : decode cModel_empty 29 = .ok (.iinc 2  1, 3) := by decide +kernel
theorem dModel_empty_32 : decode cModel_empty 32 = .ok (.goto (-28), 3) := by decide +kernel
theorem dModel_empty_35 : decode cModel_empty 35 = .ok (.iload_n 1, 1) := by decide +kernel
theorem dModel_empty_36 : decode cModel_empty 36 = .ok (.ireturn, 1) := by decide +kernel
set_option maxRecDepth 100000 in
set_option maxHeartbeats 4000000 in
theorem m_empty (l : Launch) (D : va_G) (cI cZ : ClassId) (qm : Nat → Nat) (n : Nat) (S : Nat) (P : Nat) (x : St) (hn1 : 1 ≤ n) (hn5 : n ≤ 5) (hS1 : 1 ≤ S) (hS4 : S ≤ 4) (hP5 : 5 ≤ P) (hP64 : P ≤ 64) : MI l D [(cI, .int), (cZ, .boolean)] yModel_empty wsModel_empty ({ frames := 0, cells := 0, slots := 0, locals := 0 }) [.ref (qm 0)] (wM qm cI cZ n S P x) (fun r w => r = nI (P - cntx P x) ∧ w = (wM qm cI cZ n S P x)) := by
  intro sz
  refine Met.ofW (cc := cModel_empty) (maxL := 3) (ret := (Option.some .int)) (by decide) rfl ?_
  intro p e s m args below meth c s₁ B hml hv
  obtain ⟨rfl, hsz, hP, hK, hD0, hZ⟩ := hv
  have hx := B.exec
  have hb := B.bytes
  have hr := B.returns
  have hts := atoms_spec (ws := wsModel_empty) B.pre
  have hown : s.vm.findClass RModel = some m.cls := findClass_of_methodNamed B.named
  have hlocks := B.notSynchronized
  subst hsz
  have hD := hD0.self (sz := s.heap.size)
  generalize hAe : va_A (wM qm cI cZ n S P x) s.heap.size = A at hD ⊢
  have hA : ∀ q : Nat, s.heap.size ≤ q → A q := fun q h => by rw [← hAe]; exact Or.inr h
  have hS : va_S A s.heap s.heap [] := va_S.rf
  have hP : va_P D vwCl (wM qm cI cZ n S P x) s.heap := hP
  have hl := lv_entry ([.ref (qm 0)]) (n := 3) (Nat.le_of_ble_eq_true rfl)
  rw [lg_entry_eq]
  generalize (lg_sl ([.ref (qm 0)]) ++ List.replicate (3 - (lg_sl ([.ref (qm 0)])).length) Slot.unset).toArray = ls at hl ⊢
  have hl : lv_has ls 3 [(0, .ref (qm 0))] := hl
  refine lv_iconst (v := nI 0) hx hb dModel_empty_0 (by decide) ?_
  refine lv_istore_n hx hb dModel_empty_1 rfl hl (by decide) rfl (fun ls hl => ?_)
  have hl : lv_has ls 3 [(1, .int (nI 0)), (0, .ref (qm 0))] := hl
  refine lv_iconst (v := nI 0) hx hb dModel_empty_2 (by decide) ?_
  refine lv_istore_n hx hb dModel_empty_3 rfl hl (by decide) rfl (fun ls hl => ?_)
  have hl : lv_has ls 3 [(2, .int (nI 0)), (1, .int (nI 0)), (0, .ref (qm 0))] := hl
  have loop4 : ∀ (d4 i : Nat) (ls : Array Slot) (H : Heap) (locs : List Loc), i + d4 = P → lv_has ls 3 [(2, .int (nI i)), (1, .int (nI (i - cnt (col (x.1 0) 0) i))), (0, .ref (qm 0))] → va_P D vwCl (wM qm cI cZ n S P x) H → va_D A (wM qm cI cZ n S P x) → va_S A s.heap H locs → W p l e (headSpec wsModel_empty { frames := 0, cells := 0, slots := 0, locals := 0 }).room s m [.ref (qm 0)].toArray below meth c H locs 0 0 (MQ below (va_Qi (fun r w => r = nI (P - cntx P x) ∧ w = (wM qm cI cZ n S P x)) (QW D [(cI, .int), (cZ, .boolean)] A) A) [.ref (qm 0)].toArray s 0 0 A) (F0 m 4 ls []) := by
    intro d4
    induction d4 with
    | zero =>
      intro i ls H locs hid4  hl hP hD hS
      refine lv_iload_n hx hb dModel_empty_4 rfl (lv_at hl 0 rfl) ?_
      refine lv_aload_n hx hb dModel_empty_5 rfl (lv_at hl 2 rfl) ?_
      refine va_get (D := D) (ci := 5) (v := .int (nI P)) (C := RModel) (T := TModel) (N := 25) hx hb hts (fun w h => mc (uModel_in w h)) hown hK hP 0 rfl rfl 2 (by decide) (hts _ (mc wd407)) (fun _ h9 => h9) rfl dModel_empty_6 ?_
      refine lv_icmp_ge (tgt := 35) hx hb dModel_empty_9 (by decide) (fun _ => ?_) (fun h9 => absurd (nI_le (by omega) (by omega)) h9)
      refine lv_iload_n hx hb dModel_empty_35 rfl (lv_at hl 1 rfl) ?_
      have hin : P = i := by omega
      subst hin
      exact W.iret (v := nI (P - cntx P x)) hx hb hr (fun t9 ht9 hW9 => ⟨⟨nI (P - cntx P x), (wM qm cI cZ n S P x), rfl, ⟨rfl, rfl⟩, by rw [ht9]; exact hP, va_K.moved hW9.alike hK, hD⟩, hS.F ht9⟩) hS.2.2 dModel_empty_36
    | succ d4 ih4 =>
      intro i ls H locs hid4  hl hP hD hS
      refine lv_iload_n hx hb dModel_empty_4 rfl (lv_at hl 0 rfl) ?_
      refine lv_aload_n hx hb dModel_empty_5 rfl (lv_at hl 2 rfl) ?_
      refine va_get (D := D) (ci := 5) (v := .int (nI P)) (C := RModel) (T := TModel) (N := 25) hx hb hts (fun w h => mc (uModel_in w h)) hown hK hP 0 rfl rfl 2 (by decide) (hts _ (mc wd407)) (fun _ h9 => h9) rfl dModel_empty_6 ?_
      refine lv_icmp_ge (tgt := 35) hx hb dModel_empty_9 (by decide) (fun h9 => absurd h9 (nI_ge (by omega) (by omega))) (fun _ => ?_)
      refine lv_aload_n hx hb dModel_empty_12 rfl (lv_at hl 2 rfl) ?_
      refine va_get (D := D) (ci := 5) (v := .ref (qm 2)) (C := RModel) (T := TModel) (N := 25) hx hb hts (fun w h => mc (uModel_in w h)) hown hK hP 0 rfl rfl 4 (by decide) (hts _ (mc wd409)) (fun _ h9 => h9) rfl dModel_empty_13 ?_
      refine lv_iload_n hx hb dModel_empty_16 rfl (lv_at hl 0 rfl) ?_
      refine ka_ld (v := x.1 0 i 0) hx hb hK hP 2 0 rfl rfl (by omega) (by omega) rfl dModel_empty_17 ?_
      refine lv_if_ne (tgt := 27) hx hb dModel_empty_18 (by decide) (fun c18 => ?_) (fun c18 => ?_)
      · refine lv_iload_n hx hb dModel_empty_27 rfl (lv_at hl 1 rfl) ?_
        refine lv_topi (nm_r (show nI (i - cnt (col (x.1 0) 0) i) = nI (i + 1 - cnt (col (x.1 0) 0) (i + 1)) from congrArg nI (emp_t c18)) ?_)
        refine lv_istore_n hx hb dModel_empty_28 rfl hl (by decide) rfl (fun ls hl => ?_)
        have hl : lv_has ls 3 [(1, .int (nI (i + 1 - cnt (col (x.1 0) 0) (i + 1)))), (2, .int (nI i)), (0, .ref (qm 0))] := hl
        refine lv_iinc (k := 1) (v := nI (i + 1)) hx hb dModel_empty_29 hl rfl ((nI_succ _).symm) (by decide) rfl (fun ls hl => ?_)
        have hl : lv_has ls 3 [(2, .int (nI (i + 1))), (1, .int (nI (i + 1 - cnt (col (x.1 0) 0) (i + 1)))), (0, .ref (qm 0))] := hl
        refine lv_goto (tgt := 4) hx hb dModel_empty_32 (by decide) ?_
        exact ih4 (i + 1) ls H locs (by omega) hl hP hD hS
      · refine lv_iload_n hx hb dModel_empty_21 rfl (lv_at hl 1 rfl) ?_
        refine lv_iconst (v := nI 1) hx hb dModel_empty_22 (by decide) ?_
        refine lv_iadd hx hb dModel_empty_23 ?_
        refine lv_topi (nm_r (nI_add _ _) ?_)
        refine lv_goto (tgt := 28) hx hb dModel_empty_24 (by decide) ?_
        refine lv_topi (nm_r (show nI (i - cnt (col (x.1 0) 0) i + 1) = nI (i + 1 - cnt (col (x.1 0) 0) (i + 1)) from congrArg nI (emp_f c18)) ?_)
        refine lv_istore_n hx hb dModel_empty_28 rfl hl (by decide) rfl (fun ls hl => ?_)
        have hl : lv_has ls 3 [(1, .int (nI (i + 1 - cnt (col (x.1 0) 0) (i + 1)))), (2, .int (nI i)), (0, .ref (qm 0))] := hl
        refine lv_iinc (k := 1) (v := nI (i + 1)) hx hb dModel_empty_29 hl rfl ((nI_succ _).symm) (by decide) rfl (fun ls hl => ?_)
        have hl : lv_has ls 3 [(2, .int (nI (i + 1))), (1, .int (nI (i + 1 - cnt (col (x.1 0) 0) (i + 1)))), (0, .ref (qm 0))] := hl
        refine lv_goto (tgt := 4) hx hb dModel_empty_32 (by decide) ?_
        exact ih4 (i + 1) ls H locs (by omega) hl hP hD hS
  exact loop4 P 0 ls s.heap [] (by omega) hl hP hD hS
theorem dModel_send_0 : decode cModel_send 0 = .ok (.iconst 0, 1) := by decide +kernel
theorem dModel_send_1 : decode cModel_send 1 = .ok (.istore 8, 2) := by decide +kernel
theorem dModel_send_3 : decode cModel_send 3 = .ok (.aload_n 0, 1) := by decide +kernel
theorem dModel_send_4 : decode cModel_send 4 = .ok (.getfield 13, 3) := by decide +kernel
theorem dModel_send_7 : decode cModel_send 7 = .ok (.iload 8, 2) := by decide +kernel
theorem dModel_send_9 : decode cModel_send 9 = .ok (.iaload, 1) := by decide +kernel
theorem dModel_send_10 : decode cModel_send 10 = .ok (.ifCond .le 9, 3) := by decide +kernel
theorem dModel_send_13 : decode cModel_send 13 = .ok (.iinc 8  1, 3) := by decide +kernel
theorem dModel_send_16 : decode cModel_send 16 = .ok (.goto (-13), 3) := by decide +kernel
theorem dModel_send_19 : decode cModel_send 19 = .ok (.aload_n 0, 1) := by decide +kernel
theorem dModel_send_20 : decode cModel_send 20 = .ok (.getfield 13, 3) := by decide +kernel
theorem dModel_send_23 : decode cModel_send 23 = .ok (.iload 8, 2) := by decide +kernel
theorem dModel_send_25 : decode cModel_send 25 = .ok (.iload_n 1, 1) := by decide +kernel
theorem dModel_send_26 : decode cModel_send 26 = .ok (.iastore, 1) := by decide +kernel
theorem dModel_send_27 : decode cModel_send 27 = .ok (.aload_n 0, 1) := by decide +kernel
theorem dModel_send_28 : decode cModel_send 28 = .ok (.getfield 17, 3) := by decide +kernel
theorem dModel_send_31 : decode cModel_send 31 = .ok (.iload 8, 2) := by decide +kernel
theorem dModel_send_33 : decode cModel_send 33 = .ok (.iload_n 2, 1) := by decide +kernel
theorem dModel_send_34 : decode cModel_send 34 = .ok (.iastore, 1) := by decide +kernel
theorem dModel_send_35 : decode cModel_send 35 = .ok (.aload_n 0, 1) := by decide +kernel
theorem dModel_send_36 : decode cModel_send 36 = .ok (.getfield 20, 3) := by decide +kernel
theorem dModel_send_39 : decode cModel_send 39 = .ok (.iload 8, 2) := by decide +kernel
theorem dModel_send_41 : decode cModel_send 41 = .ok (.iload_n 3, 1) := by decide +kernel
theorem dModel_send_42 : decode cModel_send 42 = .ok (.iastore, 1) := by decide +kernel
theorem dModel_send_43 : decode cModel_send 43 = .ok (.aload_n 0, 1) := by decide +kernel
theorem dModel_send_44 : decode cModel_send 44 = .ok (.getfield 23, 3) := by decide +kernel
theorem dModel_send_47 : decode cModel_send 47 = .ok (.iload 8, 2) := by decide +kernel
theorem dModel_send_49 : decode cModel_send 49 = .ok (.iload 4, 2) := by decide +kernel
theorem dModel_send_51 : decode cModel_send 51 = .ok (.iastore, 1) := by decide +kernel
theorem dModel_send_52 : decode cModel_send 52 = .ok (.aload_n 0, 1) := by decide +kernel
theorem dModel_send_53 : decode cModel_send 53 = .ok (.getfield 26, 3) := by decide +kernel
theorem dModel_send_56 : decode cModel_send 56 = .ok (.iload 8, 2) := by decide +kernel
theorem dModel_send_58 : decode cModel_send 58 = .ok (.iload 5, 2) := by decide +kernel
theorem dModel_send_60 : decode cModel_send 60 = .ok (.iastore, 1) := by decide +kernel
theorem dModel_send_61 : decode cModel_send 61 = .ok (.aload_n 0, 1) := by decide +kernel
theorem dModel_send_62 : decode cModel_send 62 = .ok (.getfield 29, 3) := by decide +kernel
theorem dModel_send_65 : decode cModel_send 65 = .ok (.iload 8, 2) := by decide +kernel
theorem dModel_send_67 : decode cModel_send 67 = .ok (.iload 6, 2) := by decide +kernel
theorem dModel_send_69 : decode cModel_send 69 = .ok (.iastore, 1) := by decide +kernel
theorem dModel_send_70 : decode cModel_send 70 = .ok (.aload_n 0, 1) := by decide +kernel
theorem dModel_send_71 : decode cModel_send 71 = .ok (.getfield 32, 3) := by decide +kernel
theorem dModel_send_74 : decode cModel_send 74 = .ok (.iload 8, 2) := by decide +kernel
theorem dModel_send_76 : decode cModel_send 76 = .ok (.iload 7, 2) := by decide +kernel
theorem dModel_send_78 : decode cModel_send 78 = .ok (.iastore, 1) := by decide +kernel
theorem dModel_send_79 : decode cModel_send 79 = .ok (.iload 8, 2) := by decide +kernel
theorem dModel_send_81 : decode cModel_send 81 = .ok (.ireturn, 1) := by decide +kernel
set_option maxRecDepth 100000 in
set_option maxHeartbeats 4000000 in
theorem m_send (l : Launch) (D : va_G) (cI cZ : ClassId) (qm : Nat → Nat) (n : Nat) (S : Nat) (P : Nat) (x : St) (k : Int32) (s1 : Int32) (r1 : Int32) (sl : Int32) (b : Int32) (v : Int32) (o : Int32) (hn1 : 1 ≤ n) (hn5 : n ≤ 5) (hS1 : 1 ≤ S) (hS4 : S ≤ 4) (hP5 : 5 ≤ P) (hP64 : P ≤ 64) (hM : Imsg n S x) (hroom : cntx P x < P) : MI l D [(cI, .int), (cZ, .boolean)] yModel_send wsModel_send ({ frames := 0, cells := 0, slots := 0, locals := 0 }) [.ref (qm 0), .int k, .int s1, .int r1, .int sl, .int b, .int v, .int o] (wM qm cI cZ n S P x) (fun r w => r = nI (lst (col (x.1 0) 0) P 0) ∧ w = (wM qm cI cZ n S P (send1 P x k s1 r1 sl b v o))) := by
  intro sz
  have hlt : lst (col (x.1 0) 0) P 0 < P := lst_lt hroom
  refine Met.ofW (cc := cModel_send) (maxL := 9) (ret := (Option.some .int)) (by decide) rfl ?_
  intro p e s m args below meth c s₁ B hml hv
  obtain ⟨rfl, hsz, hP, hK, hD0, hZ⟩ := hv
  have hx := B.exec
  have hb := B.bytes
  have hr := B.returns
  have hts := atoms_spec (ws := wsModel_send) B.pre
  have hown : s.vm.findClass RModel = some m.cls := findClass_of_methodNamed B.named
  have hlocks := B.notSynchronized
  subst hsz
  have hD := hD0.self (sz := s.heap.size)
  generalize hAe : va_A (wM qm cI cZ n S P x) s.heap.size = A at hD ⊢
  have hA : ∀ q : Nat, s.heap.size ≤ q → A q := fun q h => by rw [← hAe]; exact Or.inr h
  have hS : va_S A s.heap s.heap [] := va_S.rf
  have hP : va_P D vwCl (wM qm cI cZ n S P x) s.heap := hP
  have hl := lv_entry ([.ref (qm 0), .int k, .int s1, .int r1, .int sl, .int b, .int v, .int o]) (n := 9) (Nat.le_of_ble_eq_true rfl)
  rw [lg_entry_eq]
  generalize (lg_sl ([.ref (qm 0), .int k, .int s1, .int r1, .int sl, .int b, .int v, .int o]) ++ List.replicate (9 - (lg_sl ([.ref (qm 0), .int k, .int s1, .int r1, .int sl, .int b, .int v, .int o])).length) Slot.unset).toArray = ls at hl ⊢
  have hl : lv_has ls 9 [(0, .ref (qm 0)), (1, .int k), (2, .int s1), (3, .int r1), (4, .int sl), (5, .int b), (6, .int v), (7, .int o)] := hl
  refine lv_iconst (v := nI 0) hx hb dModel_send_0 (by decide) ?_
  refine lv_istore hx hb dModel_send_1 hl (by decide) rfl (fun ls hl => ?_)
  have hl : lv_has ls 9 [(8, .int (nI 0)), (0, .ref (qm 0)), (1, .int k), (2, .int s1), (3, .int r1), (4, .int sl), (5, .int b), (6, .int v), (7, .int o)] := hl
  have loop3 : ∀ (d3 i : Nat) (ls : Array Slot) (H : Heap) (locs : List Loc), i + d3 = lst (col (x.1 0) 0) P 0 → lv_has ls 9 [(8, .int (nI i)), (0, .ref (qm 0)), (1, .int k), (2, .int s1), (3, .int r1), (4, .int sl), (5, .int b), (6, .int v), (7, .int o)] → va_P D vwCl (wM qm cI cZ n S P x) H → va_D A (wM qm cI cZ n S P x) → va_S A s.heap H locs → W p l e (headSpec wsModel_send { frames := 0, cells := 0, slots := 0, locals := 0 }).room s m [.ref (qm 0), .int k, .int s1, .int r1, .int sl, .int b, .int v, .int o].toArray below meth c H locs 0 0 (MQ below (va_Qi (fun r w => r = nI (lst (col (x.1 0) 0) P 0) ∧ w = (wM qm cI cZ n S P (send1 P x k s1 r1 sl b v o))) (QW D [(cI, .int), (cZ, .boolean)] A) A) [.ref (qm 0), .int k, .int s1, .int r1, .int sl, .int b, .int v, .int o].toArray s 0 0 A) (F0 m 3 ls []) := by
    intro d3
    induction d3 with
    | zero =>
      intro i ls H locs hid3  hl hP hD hS
      refine lv_aload_n hx hb dModel_send_3 rfl (lv_at hl 1 rfl) ?_
      refine va_get (D := D) (ci := 5) (v := .ref (qm 2)) (C := RModel) (T := TModel) (N := 25) hx hb hts (fun w h => mc (uModel_in w h)) hown hK hP 0 rfl rfl 4 (by decide) (hts _ (mc wd409)) (fun _ h9 => h9) rfl dModel_send_4 ?_
      refine lv_iload hx hb dModel_send_7 (lv_at hl 0 rfl) ?_
      refine ka_ld (v := x.1 0 i 0) hx hb hK hP 2 0 rfl rfl (by omega) (by omega) rfl dModel_send_9 ?_
      have hin : i = lst (col (x.1 0) 0) P 0 := by omega
      subst hin
      have hz0 : x.1 0 (lst (col (x.1 0) 0) P 0) 0 = 0 := (lst_spec (col (x.1 0) 0) P 0).2.2.2 (by omega)
      refine lv_if_le (tgt := 19) hx hb dModel_send_10 (by decide) (fun _ => ?_) (fun h9 => absurd (show x.1 0 (lst (col (x.1 0) 0) P 0) 0 ≤ 0 by rw [hz0]; decide) h9)
      refine lv_aload_n hx hb dModel_send_19 rfl (lv_at hl 1 rfl) ?_
      refine va_get (D := D) (ci := 5) (v := .ref (qm 2)) (C := RModel) (T := TModel) (N := 25) hx hb hts (fun w h => mc (uModel_in w h)) hown hK hP 0 rfl rfl 4 (by decide) (hts _ (mc wd409)) (fun _ h9 => h9) rfl dModel_send_20 ?_
      refine lv_iload hx hb dModel_send_23 (lv_at hl 0 rfl) ?_
      refine lv_iload_n hx hb dModel_send_25 rfl (lv_at hl 2 rfl) ?_
      refine ka_st (f' := col (up2 (x.1 0) (lst (col (x.1 0) 0) P 0) 0 k) 0) hx hb hK hP hD hS 2 0 rfl rfl (by omega) (by omega) col_up dModel_send_26 (fun H locs hP hD hS => ?_)
      have hP : va_P D vwCl (wR qm cI cZ n S P (col (x.1 13) 0) (col (up2 (x.1 0) (lst (col (x.1 0) 0) P 0) 0 k) 0) (col (x.1 0) 1) (col (x.1 0) 2) (col (x.1 0) 3) (col (x.1 0) 4) (col (x.1 0) 5) (col (x.1 0) 6) (sq 4 (x.1 2)) (sq 4 (x.1 1)) (sq 4 (x.1 6)) (sq 4 (x.1 3)) (sq 4 (x.1 4)) (sq 4 (x.1 7)) (sq 4 (x.1 8)) (sq 4 (x.1 9)) (sq 4 (x.1 10)) (hrm (x.2 0)) (hrm (x.2 1)) (sq 4 (x.1 11)) (x.1 12 0 0) (x.1 12 0 1)) H := hP
      have hD : va_D A (wR qm cI cZ n S P (col (x.1 13) 0) (col (up2 (x.1 0) (lst (col (x.1 0) 0) P 0) 0 k) 0) (col (x.1 0) 1) (col (x.1 0) 2) (col (x.1 0) 3) (col (x.1 0) 4) (col (x.1 0) 5) (col (x.1 0) 6) (sq 4 (x.1 2)) (sq 4 (x.1 1)) (sq 4 (x.1 6)) (sq 4 (x.1 3)) (sq 4 (x.1 4)) (sq 4 (x.1 7)) (sq 4 (x.1 8)) (sq 4 (x.1 9)) (sq 4 (x.1 10)) (hrm (x.2 0)) (hrm (x.2 1)) (sq 4 (x.1 11)) (x.1 12 0 0) (x.1 12 0 1)) := hD
      refine lv_aload_n hx hb dModel_send_27 rfl (lv_at hl 1 rfl) ?_
      refine va_get (D := D) (ci := 5) (v := .ref (qm 3)) (C := RModel) (T := TModel) (N := 25) hx hb hts (fun w h => mc (uModel_in w h)) hown hK hP 0 rfl rfl 5 (by decide) (hts _ (mc wd410)) (fun _ h9 => h9) rfl dModel_send_28 ?_
      refine lv_iload hx hb dModel_send_31 (lv_at hl 0 rfl) ?_
      refine lv_iload_n hx hb dModel_send_33 rfl (lv_at hl 3 rfl) ?_
      refine ka_st (f' := col (up2 (x.1 0) (lst (col (x.1 0) 0) P 0) 1 s1) 1) hx hb hK hP hD hS 3 0 rfl rfl (by omega) (by omega) col_up dModel_send_34 (fun H locs hP hD hS => ?_)
      have hP : va_P D vwCl (wR qm cI cZ n S P (col (x.1 13) 0) (col (up2 (x.1 0) (lst (col (x.1 0) 0) P 0) 0 k) 0) (col (up2 (x.1 0) (lst (col (x.1 0) 0) P 0) 1 s1) 1) (col (x.1 0) 2) (col (x.1 0) 3) (col (x.1 0) 4) (col (x.1 0) 5) (col (x.1 0) 6) (sq 4 (x.1 2)) (sq 4 (x.1 1)) (sq 4 (x.1 6)) (sq 4 (x.1 3)) (sq 4 (x.1 4)) (sq 4 (x.1 7)) (sq 4 (x.1 8)) (sq 4 (x.1 9)) (sq 4 (x.1 10)) (hrm (x.2 0)) (hrm (x.2 1)) (sq 4 (x.1 11)) (x.1 12 0 0) (x.1 12 0 1)) H := hP
      have hD : va_D A (wR qm cI cZ n S P (col (x.1 13) 0) (col (up2 (x.1 0) (lst (col (x.1 0) 0) P 0) 0 k) 0) (col (up2 (x.1 0) (lst (col (x.1 0) 0) P 0) 1 s1) 1) (col (x.1 0) 2) (col (x.1 0) 3) (col (x.1 0) 4) (col (x.1 0) 5) (col (x.1 0) 6) (sq 4 (x.1 2)) (sq 4 (x.1 1)) (sq 4 (x.1 6)) (sq 4 (x.1 3)) (sq 4 (x.1 4)) (sq 4 (x.1 7)) (sq 4 (x.1 8)) (sq 4 (x.1 9)) (sq 4 (x.1 10)) (hrm (x.2 0)) (hrm (x.2 1)) (sq 4 (x.1 11)) (x.1 12 0 0) (x.1 12 0 1)) := hD
      refine lv_aload_n hx hb dModel_send_35 rfl (lv_at hl 1 rfl) ?_
      refine va_get (D := D) (ci := 5) (v := .ref (qm 4)) (C := RModel) (T := TModel) (N := 25) hx hb hts (fun w h => mc (uModel_in w h)) hown hK hP 0 rfl rfl 6 (by decide) (hts _ (mc wd411)) (fun _ h9 => h9) rfl dModel_send_36 ?_
      refine lv_iload hx hb dModel_send_39 (lv_at hl 0 rfl) ?_
      refine lv_iload_n hx hb dModel_send_41 rfl (lv_at hl 4 rfl) ?_
      refine ka_st (f' := col (up2 (x.1 0) (lst (col (x.1 0) 0) P 0) 2 r1) 2) hx hb hK hP hD hS 4 0 rfl rfl (by omega) (by omega) col_up dModel_send_42 (fun H locs hP hD hS => ?_)
      have hP : va_P D vwCl (wR qm cI cZ n S P (col (x.1 13) 0) (col (up2 (x.1 0) (lst (col (x.1 0) 0) P 0) 0 k) 0) (col (up2 (x.1 0) (lst (col (x.1 0) 0) P 0) 1 s1) 1) (col (up2 (x.1 0) (lst (col (x.1 0) 0) P 0) 2 r1) 2) (col (x.1 0) 3) (col (x.1 0) 4) (col (x.1 0) 5) (col (x.1 0) 6) (sq 4 (x.1 2)) (sq 4 (x.1 1)) (sq 4 (x.1 6)) (sq 4 (x.1 3)) (sq 4 (x.1 4)) (sq 4 (x.1 7)) (sq 4 (x.1 8)) (sq 4 (x.1 9)) (sq 4 (x.1 10)) (hrm (x.2 0)) (hrm (x.2 1)) (sq 4 (x.1 11)) (x.1 12 0 0) (x.1 12 0 1)) H := hP
      have hD : va_D A (wR qm cI cZ n S P (col (x.1 13) 0) (col (up2 (x.1 0) (lst (col (x.1 0) 0) P 0) 0 k) 0) (col (up2 (x.1 0) (lst (col (x.1 0) 0) P 0) 1 s1) 1) (col (up2 (x.1 0) (lst (col (x.1 0) 0) P 0) 2 r1) 2) (col (x.1 0) 3) (col (x.1 0) 4) (col (x.1 0) 5) (col (x.1 0) 6) (sq 4 (x.1 2)) (sq 4 (x.1 1)) (sq 4 (x.1 6)) (sq 4 (x.1 3)) (sq 4 (x.1 4)) (sq 4 (x.1 7)) (sq 4 (x.1 8)) (sq 4 (x.1 9)) (sq 4 (x.1 10)) (hrm (x.2 0)) (hrm (x.2 1)) (sq 4 (x.1 11)) (x.1 12 0 0) (x.1 12 0 1)) := hD
      refine lv_aload_n hx hb dModel_send_43 rfl (lv_at hl 1 rfl) ?_
      refine va_get (D := D) (ci := 5) (v := .ref (qm 5)) (C := RModel) (T := TModel) (N := 25) hx hb hts (fun w h => mc (uModel_in w h)) hown hK hP 0 rfl rfl 7 (by decide) (hts _ (mc wd412)) (fun _ h9 => h9) rfl dModel_send_44 ?_
      refine lv_iload hx hb dModel_send_47 (lv_at hl 0 rfl) ?_
      refine lv_iload hx hb dModel_send_49 (lv_at hl 5 rfl) ?_
      refine ka_st (f' := col (up2 (x.1 0) (lst (col (x.1 0) 0) P 0) 3 sl) 3) hx hb hK hP hD hS 5 0 rfl rfl (by omega) (by omega) col_up dModel_send_51 (fun H locs hP hD hS => ?_)
      have hP : va_P D vwCl (wR qm cI cZ n S P (col (x.1 13) 0) (col (up2 (x.1 0) (lst (col (x.1 0) 0) P 0) 0 k) 0) (col (up2 (x.1 0) (lst (col (x.1 0) 0) P 0) 1 s1) 1) (col (up2 (x.1 0) (lst (col (x.1 0) 0) P 0) 2 r1) 2) (col (up2 (x.1 0) (lst (col (x.1 0) 0) P 0) 3 sl) 3) (col (x.1 0) 4) (col (x.1 0) 5) (col (x.1 0) 6) (sq 4 (x.1 2)) (sq 4 (x.1 1)) (sq 4 (x.1 6)) (sq 4 (x.1 3)) (sq 4 (x.1 4)) (sq 4 (x.1 7)) (sq 4 (x.1 8)) (sq 4 (x.1 9)) (sq 4 (x.1 10)) (hrm (x.2 0)) (hrm (x.2 1)) (sq 4 (x.1 11)) (x.1 12 0 0) (x.1 12 0 1)) H := hP
      have hD : va_D A (wR qm cI cZ n S P (col (x.1 13) 0) (col (up2 (x.1 0) (lst (col (x.1 0) 0) P 0) 0 k) 0) (col (up2 (x.1 0) (lst (col (x.1 0) 0) P 0) 1 s1) 1) (col (up2 (x.1 0) (lst (col (x.1 0) 0) P 0) 2 r1) 2) (col (up2 (x.1 0) (lst (col (x.1 0) 0) P 0) 3 sl) 3) (col (x.1 0) 4) (col (x.1 0) 5) (col (x.1 0) 6) (sq 4 (x.1 2)) (sq 4 (x.1 1)) (sq 4 (x.1 6)) (sq 4 (x.1 3)) (sq 4 (x.1 4)) (sq 4 (x.1 7)) (sq 4 (x.1 8)) (sq 4 (x.1 9)) (sq 4 (x.1 10)) (hrm (x.2 0)) (hrm (x.2 1)) (sq 4 (x.1 11)) (x.1 12 0 0) (x.1 12 0 1)) := hD
      refine lv_aload_n hx hb dModel_send_52 rfl (lv_at hl 1 rfl) ?_
      refine va_get (D := D) (ci := 5) (v := .ref (qm 6)) (C := RModel) (T := TModel) (N := 25) hx hb hts (fun w h => mc (uModel_in w h)) hown hK hP 0 rfl rfl 8 (by decide) (hts _ (mc wd413)) (fun _ h9 => h9) rfl dModel_send_53 ?_
      refine lv_iload hx hb dModel_send_56 (lv_at hl 0 rfl) ?_
      refine lv_iload hx hb dModel_send_58 (lv_at hl 6 rfl) ?_
      refine ka_st (f' := col (up2 (x.1 0) (lst (col (x.1 0) 0) P 0) 4 b) 4) hx hb hK hP hD hS 6 0 rfl rfl (by omega) (by omega) col_up dModel_send_60 (fun H locs hP hD hS => ?_)
      have hP : va_P D vwCl (wR qm cI cZ n S P (col (x.1 13) 0) (col (up2 (x.1 0) (lst (col (x.1 0) 0) P 0) 0 k) 0) (col (up2 (x.1 0) (lst (col (x.1 0) 0) P 0) 1 s1) 1) (col (up2 (x.1 0) (lst (col (x.1 0) 0) P 0) 2 r1) 2) (col (up2 (x.1 0) (lst (col (x.1 0) 0) P 0) 3 sl) 3) (col (up2 (x.1 0) (lst (col (x.1 0) 0) P 0) 4 b) 4) (col (x.1 0) 5) (col (x.1 0) 6) (sq 4 (x.1 2)) (sq 4 (x.1 1)) (sq 4 (x.1 6)) (sq 4 (x.1 3)) (sq 4 (x.1 4)) (sq 4 (x.1 7)) (sq 4 (x.1 8)) (sq 4 (x.1 9)) (sq 4 (x.1 10)) (hrm (x.2 0)) (hrm (x.2 1)) (sq 4 (x.1 11)) (x.1 12 0 0) (x.1 12 0 1)) H := hP
      have hD : va_D A (wR qm cI cZ n S P (col (x.1 13) 0) (col (up2 (x.1 0) (lst (col (x.1 0) 0) P 0) 0 k) 0) (col (up2 (x.1 0) (lst (col (x.1 0) 0) P 0) 1 s1) 1) (col (up2 (x.1 0) (lst (col (x.1 0) 0) P 0) 2 r1) 2) (col (up2 (x.1 0) (lst (col (x.1 0) 0) P 0) 3 sl) 3) (col (up2 (x.1 0) (lst (col (x.1 0) 0) P 0) 4 b) 4) (col (x.1 0) 5) (col (x.1 0) 6) (sq 4 (x.1 2)) (sq 4 (x.1 1)) (sq 4 (x.1 6)) (sq 4 (x.1 3)) (sq 4 (x.1 4)) (sq 4 (x.1 7)) (sq 4 (x.1 8)) (sq 4 (x.1 9)) (sq 4 (x.1 10)) (hrm (x.2 0)) (hrm (x.2 1)) (sq 4 (x.1 11)) (x.1 12 0 0) (x.1 12 0 1)) := hD
      refine lv_aload_n hx hb dModel_send_61 rfl (lv_at hl 1 rfl) ?_
      refine va_get (D := D) (ci := 5) (v := .ref (qm 7)) (C := RModel) (T := TModel) (N := 25) hx hb hts (fun w h => mc (uModel_in w h)) hown hK hP 0 rfl rfl 9 (by decide) (hts _ (mc wd414)) (fun _ h9 => h9) rfl dModel_send_62 ?_
      refine lv_iload hx hb dModel_send_65 (lv_at hl 0 rfl) ?_
      refine lv_iload hx hb dModel_send_67 (lv_at hl 7 rfl) ?_
      refine ka_st (f' := col (up2 (x.1 0) (lst (col (x.1 0) 0) P 0) 5 v) 5) hx hb hK hP hD hS 7 0 rfl rfl (by omega) (by omega) col_up dModel_send_69 (fun H locs hP hD hS => ?_)
      have hP : va_P D vwCl (wR qm cI cZ n S P (col (x.1 13) 0) (col (up2 (x.1 0) (lst (col (x.1 0) 0) P 0) 0 k) 0) (col (up2 (x.1 0) (lst (col (x.1 0) 0) P 0) 1 s1) 1) (col (up2 (x.1 0) (lst (col (x.1 0) 0) P 0) 2 r1) 2) (col (up2 (x.1 0) (lst (col (x.1 0) 0) P 0) 3 sl) 3) (col (up2 (x.1 0) (lst (col (x.1 0) 0) P 0) 4 b) 4) (col (up2 (x.1 0) (lst (col (x.1 0) 0) P 0) 5 v) 5) (col (x.1 0) 6) (sq 4 (x.1 2)) (sq 4 (x.1 1)) (sq 4 (x.1 6)) (sq 4 (x.1 3)) (sq 4 (x.1 4)) (sq 4 (x.1 7)) (sq 4 (x.1 8)) (sq 4 (x.1 9)) (sq 4 (x.1 10)) (hrm (x.2 0)) (hrm (x.2 1)) (sq 4 (x.1 11)) (x.1 12 0 0) (x.1 12 0 1)) H := hP
      have hD : va_D A (wR qm cI cZ n S P (col (x.1 13) 0) (col (up2 (x.1 0) (lst (col (x.1 0) 0) P 0) 0 k) 0) (col (up2 (x.1 0) (lst (col (x.1 0) 0) P 0) 1 s1) 1) (col (up2 (x.1 0) (lst (col (x.1 0) 0) P 0) 2 r1) 2) (col (up2 (x.1 0) (lst (col (x.1 0) 0) P 0) 3 sl) 3) (col (up2 (x.1 0) (lst (col (x.1 0) 0) P 0) 4 b) 4) (col (up2 (x.1 0) (lst (col (x.1 0) 0) P 0) 5 v) 5) (col (x.1 0) 6) (sq 4 (x.1 2)) (sq 4 (x.1 1)) (sq 4 (x.1 6)) (sq 4 (x.1 3)) (sq 4 (x.1 4)) (sq 4 (x.1 7)) (sq 4 (x.1 8)) (sq 4 (x.1 9)) (sq 4 (x.1 10)) (hrm (x.2 0)) (hrm (x.2 1)) (sq 4 (x.1 11)) (x.1 12 0 0) (x.1 12 0 1)) := hD
      refine lv_aload_n hx hb dModel_send_70 rfl (lv_at hl 1 rfl) ?_
      refine va_get (D := D) (ci := 5) (v := .ref (qm 8)) (C := RModel) (T := TModel) (N := 25) hx hb hts (fun w h => mc (uModel_in w h)) hown hK hP 0 rfl rfl 10 (by decide) (hts _ (mc wd415)) (fun _ h9 => h9) rfl dModel_send_71 ?_
      refine lv_iload hx hb dModel_send_74 (lv_at hl 0 rfl) ?_
      refine lv_iload hx hb dModel_send_76 (lv_at hl 8 rfl) ?_
      refine ka_st (f' := col (up2 (x.1 0) (lst (col (x.1 0) 0) P 0) 6 o) 6) hx hb hK hP hD hS 8 0 rfl rfl (by omega) (by omega) col_up dModel_send_78 (fun H locs hP hD hS => ?_)
      have hP : va_P D vwCl (wR qm cI cZ n S P (col (x.1 13) 0) (col (up2 (x.1 0) (lst (col (x.1 0) 0) P 0) 0 k) 0) (col (up2 (x.1 0) (lst (col (x.1 0) 0) P 0) 1 s1) 1) (col (up2 (x.1 0) (lst (col (x.1 0) 0) P 0) 2 r1) 2) (col (up2 (x.1 0) (lst (col (x.1 0) 0) P 0) 3 sl) 3) (col (up2 (x.1 0) (lst (col (x.1 0) 0) P 0) 4 b) 4) (col (up2 (x.1 0) (lst (col (x.1 0) 0) P 0) 5 v) 5) (col (up2 (x.1 0) (lst (col (x.1 0) 0) P 0) 6 o) 6) (sq 4 (x.1 2)) (sq 4 (x.1 1)) (sq 4 (x.1 6)) (sq 4 (x.1 3)) (sq 4 (x.1 4)) (sq 4 (x.1 7)) (sq 4 (x.1 8)) (sq 4 (x.1 9)) (sq 4 (x.1 10)) (hrm (x.2 0)) (hrm (x.2 1)) (sq 4 (x.1 11)) (x.1 12 0 0) (x.1 12 0 1)) H := hP
      have hD : va_D A (wR qm cI cZ n S P (col (x.1 13) 0) (col (up2 (x.1 0) (lst (col (x.1 0) 0) P 0) 0 k) 0) (col (up2 (x.1 0) (lst (col (x.1 0) 0) P 0) 1 s1) 1) (col (up2 (x.1 0) (lst (col (x.1 0) 0) P 0) 2 r1) 2) (col (up2 (x.1 0) (lst (col (x.1 0) 0) P 0) 3 sl) 3) (col (up2 (x.1 0) (lst (col (x.1 0) 0) P 0) 4 b) 4) (col (up2 (x.1 0) (lst (col (x.1 0) 0) P 0) 5 v) 5) (col (up2 (x.1 0) (lst (col (x.1 0) 0) P 0) 6 o) 6) (sq 4 (x.1 2)) (sq 4 (x.1 1)) (sq 4 (x.1 6)) (sq 4 (x.1 3)) (sq 4 (x.1 4)) (sq 4 (x.1 7)) (sq 4 (x.1 8)) (sq 4 (x.1 9)) (sq 4 (x.1 10)) (hrm (x.2 0)) (hrm (x.2 1)) (sq 4 (x.1 11)) (x.1 12 0 0) (x.1 12 0 1)) := hD
      have hW1 : (wR qm cI cZ n S P (col (x.1 13) 0) (col (up2 (x.1 0) (lst (col (x.1 0) 0) P 0) 0 k) 0) (col (up2 (x.1 0) (lst (col (x.1 0) 0) P 0) 1 s1) 1) (col (up2 (x.1 0) (lst (col (x.1 0) 0) P 0) 2 r1) 2) (col (up2 (x.1 0) (lst (col (x.1 0) 0) P 0) 3 sl) 3) (col (up2 (x.1 0) (lst (col (x.1 0) 0) P 0) 4 b) 4) (col (up2 (x.1 0) (lst (col (x.1 0) 0) P 0) 5 v) 5) (col (up2 (x.1 0) (lst (col (x.1 0) 0) P 0) 6 o) 6) (sq 4 (x.1 2)) (sq 4 (x.1 1)) (sq 4 (x.1 6)) (sq 4 (x.1 3)) (sq 4 (x.1 4)) (sq 4 (x.1 7)) (sq 4 (x.1 8)) (sq 4 (x.1 9)) (sq 4 (x.1 10)) (hrm (x.2 0)) (hrm (x.2 1)) (sq 4 (x.1 11)) (x.1 12 0 0) (x.1 12 0 1)) = (wM qm cI cZ n S P (send1 P x k s1 r1 sl b v o)) := wM_send
      rw [hW1] at hP hD
      refine lv_iload hx hb dModel_send_79 (lv_at hl 0 rfl) ?_
      exact W.iret (v := nI (lst (col (x.1 0) 0) P 0)) hx hb hr (fun t9 ht9 hW9 => ⟨⟨nI (lst (col (x.1 0) 0) P 0), (wM qm cI cZ n S P (send1 P x k s1 r1 sl b v o)), rfl, ⟨rfl, rfl⟩, by rw [ht9]; exact hP, va_K.moved hW9.alike hK, hD⟩, hS.F ht9⟩) hS.2.2 dModel_send_81
    | succ d3 ih3 =>
      intro i ls H locs hid3  hl hP hD hS
      refine lv_aload_n hx hb dModel_send_3 rfl (lv_at hl 1 rfl) ?_
      refine va_get (D := D) (ci := 5) (v := .ref (qm 2)) (C := RModel) (T := TModel) (N := 25) hx hb hts (fun w h => mc (uModel_in w h)) hown hK hP 0 rfl rfl 4 (by decide) (hts _ (mc wd409)) (fun _ h9 => h9) rfl dModel_send_4 ?_
      refine lv_iload hx hb dModel_send_7 (lv_at hl 0 rfl) ?_
      refine ka_ld (v := x.1 0 i 0) hx hb hK hP 2 0 rfl rfl (by omega) (by omega) rfl dModel_send_9 ?_
      refine lv_if_le (tgt := 19) hx hb dModel_send_10 (by decide) (fun h9 => absurd h9 (kpos hM (show x.1 0 i 0 ≠ 0 from (lst_spec (col (x.1 0) 0) P 0).2.2.1 i (by omega) (by omega)))) (fun _ => ?_)
      refine lv_iinc (k := 0) (v := nI (i + 1)) hx hb dModel_send_13 hl rfl ((nI_succ _).symm) (by decide) rfl (fun ls hl => ?_)
      have hl : lv_has ls 9 [(8, .int (nI (i + 1))), (0, .ref (qm 0)), (1, .int k), (2, .int s1), (3, .int r1), (4, .int sl), (5, .int b), (6, .int v), (7, .int o)] := hl
      refine lv_goto (tgt := 3) hx hb dModel_send_16 (by decide) ?_
      exact ih3 (i + 1) ls H locs (by omega) hl hP hD hS
  exact loop3 (lst (col (x.1 0) 0) P 0) 0 ls s.heap [] (by omega) hl hP hD hS
theorem dModel_sendAll_0 : decode cModel_sendAll 0 = .ok (.iconst 0, 1) := by decide +kernel
theorem dModel_sendAll_1 : decode cModel_sendAll 1 = .ok (.istore 6, 2) := by decide +kernel
theorem dModel_sendAll_3 : decode cModel_sendAll 3 = .ok (.iload 6, 2) := by decide +kernel
theorem dModel_sendAll_5 : decode cModel_sendAll 5 = .ok (.aload_n 0, 1) := by decide +kernel
theorem dModel_sendAll_6 : decode cModel_sendAll 6 = .ok (.getfield 71, 3) := by decide +kernel
theorem dModel_sendAll_9 : decode cModel_sendAll 9 = .ok (.if_icmp .ge 25, 3) := by decide +kernel
theorem dModel_sendAll_12 : decode cModel_sendAll 12 = .ok (.aload_n 0, 1) := by decide +kernel
theorem dModel_sendAll_13 : decode cModel_sendAll 13 = .ok (.iload_n 1, 1) := by decide +kernel
theorem dModel_sendAll_14 : decode cModel_sendAll 14 = .ok (.iload_n 2, 1) := by decide +kernel
theorem dModel_sendAll_15 : decode cModel_sendAll 15 = .ok (.iload 6, 2) := by decide +kernel
theorem dModel_sendAll_17 : decode cModel_sendAll 17 = .ok (.iload_n 3, 1) := by decide +kernel
theorem dModel_sendAll_18 : decode cModel_sendAll 18 = .ok (.iload 4, 2) := by decide +kernel
theorem dModel_sendAll_20 : decode cModel_sendAll 20 = .ok (.iload 5, 2) := by decide +kernel
theorem dModel_sendAll_22 : decode cModel_sendAll 22 = .ok (.iconst (-1), 1) := by decide +kernel
theorem dModel_sendAll_23 : decode cModel_sendAll 23 = .ok (.invokevirtual 81, 3) := by decide +kernel
theorem dModel_sendAll_26 : decode cModel_sendAll 26 = .ok (.istore 7, 2) := by decide +kernel
theorem dModel_sendAll_28 : decode cModel_sendAll 28 = .ok (.iinc 6  1, 3) := by decide +kernel
theorem dModel_sendAll_31 : decode cModel_sendAll 31 = .ok (.goto (-28), 3) := by decide +kernel
theorem dModel_sendAll_34 : decode cModel_sendAll 34 = .ok (.return_, 1) := by decide +kernel
set_option maxRecDepth 100000 in
set_option maxHeartbeats 4000000 in
theorem m_sendAll (l : Launch) (D : va_G) (cI cZ : ClassId) (qm : Nat → Nat) (n : Nat) (S : Nat) (P : Nat) (x : St) (k : Int32) (s1 : Int32) (sl : Int32) (b : Int32) (v : Int32) (hn1 : 1 ≤ n) (hn5 : n ≤ 5) (hS1 : 1 ≤ S) (hS4 : S ≤ 4) (hP5 : 5 ≤ P) (hP64 : P ≤ 64) (hM : Imsg n S x) (hVs : ∀ j, j < n → vmsg n S k s1 (nI j) sl v) (hroom : cntx P x + n ≤ P) : MV l D [(cI, .int), (cZ, .boolean)] yModel_sendAll wsModel_sendAll ({ frames := 1, cells := 0, slots := 0, locals := 28 }) [.ref (qm 0), .int k, .int s1, .int sl, .int b, .int v] (wM qm cI cZ n S P x) (fun w => w = (wM qm cI cZ n S P (sendA P x k s1 sl b v n))) := by
  intro sz
  have hk0 : k ≠ 0 := vmsg_nz (hVs 0 (by omega))
  refine Met.ofW (cc := cModel_sendAll) (maxL := 8) (ret := (Option.none : Option ClassFile.FieldType)) (by decide) rfl ?_
  intro p e s m args below meth c s₁ B hml hv
  obtain ⟨rfl, hsz, hP, hK, hD0, hZ⟩ := hv
  have hx := B.exec
  have hb := B.bytes
  have hr := B.returns
  have hts := atoms_spec (ws := wsModel_sendAll) B.pre
  have hown : s.vm.findClass RModel = some m.cls := findClass_of_methodNamed B.named
  have hlocks := B.notSynchronized
  subst hsz
  have hD := hD0.self (sz := s.heap.size)
  generalize hAe : va_A (wM qm cI cZ n S P x) s.heap.size = A at hD ⊢
  have hA : ∀ q : Nat, s.heap.size ≤ q → A q := fun q h => by rw [← hAe]; exact Or.inr h
  have hS : va_S A s.heap s.heap [] := va_S.rf
  have hP : va_P D vwCl (wM qm cI cZ n S P x) s.heap := hP
  have hl := lv_entry ([.ref (qm 0), .int k, .int s1, .int sl, .int b, .int v]) (n := 8) (Nat.le_of_ble_eq_true rfl)
  rw [lg_entry_eq]
  generalize (lg_sl ([.ref (qm 0), .int k, .int s1, .int sl, .int b, .int v]) ++ List.replicate (8 - (lg_sl ([.ref (qm 0), .int k, .int s1, .int sl, .int b, .int v])).length) Slot.unset).toArray = ls at hl ⊢
  have hl : lv_has ls 8 [(0, .ref (qm 0)), (1, .int k), (2, .int s1), (3, .int sl), (4, .int b), (5, .int v)] := hl
  refine lv_iconst (v := nI 0) hx hb dModel_sendAll_0 (by decide) ?_
  refine lv_istore hx hb dModel_sendAll_1 hl (by decide) rfl (fun ls hl => ?_)
  have hl : lv_has ls 8 [(6, .int (nI 0)), (0, .ref (qm 0)), (1, .int k), (2, .int s1), (3, .int sl), (4, .int b), (5, .int v)] := hl
  have loop3 : ∀ (d3 i : Nat) (ls : Array Slot) (H : Heap) (locs : List Loc), i + d3 = n → lv_has ls 8 [(6, .int (nI i)), (0, .ref (qm 0)), (1, .int k), (2, .int s1), (3, .int sl), (4, .int b), (5, .int v)] → va_P D vwCl (wM qm cI cZ n S P (sendA P x k s1 sl b v i)) H → va_D A (wM qm cI cZ n S P (sendA P x k s1 sl b v i)) → va_S A s.heap H locs → W p l e (headSpec wsModel_sendAll { frames := 1, cells := 0, slots := 0, locals := 28 }).room s m [.ref (qm 0), .int k, .int s1, .int sl, .int b, .int v].toArray below meth c H locs 0 0 (MQ below (va_Qv (fun w => w = (wM qm cI cZ n S P (sendA P x k s1 sl b v n))) (QW D [(cI, .int), (cZ, .boolean)] A) A) [.ref (qm 0), .int k, .int s1, .int sl, .int b, .int v].toArray s 0 0 A) (F0 m 3 ls []) := by
    intro d3
    induction d3 with
    | zero =>
      intro i ls H locs hid3  hl hP hD hS
      refine lv_iload hx hb dModel_sendAll_3 (lv_at hl 0 rfl) ?_
      refine lv_aload_n hx hb dModel_sendAll_5 rfl (lv_at hl 1 rfl) ?_
      refine va_get (D := D) (ci := 5) (v := .int (nI n)) (C := RModel) (T := TModel) (N := 25) hx hb hts (fun w h => mc (uModel_in w h)) hown hK hP 0 rfl rfl 0 (by decide) (hts _ (mc wd405)) (fun _ h9 => h9) rfl dModel_sendAll_6 ?_
      refine lv_icmp_ge (tgt := 34) hx hb dModel_sendAll_9 (by decide) (fun _ => ?_) (fun h9 => absurd (nI_le (by omega) (by omega)) h9)
      have hin : n = i := by omega
      subst hin
      exact W.vret hx hb hr (fun t9 ht9 hW9 => ⟨⟨(wM qm cI cZ n S P (sendA P x k s1 sl b v n)), rfl, rfl, by rw [ht9]; exact hP, va_K.moved hW9.alike hK, hD⟩, hS.F ht9⟩) hS.2.2 dModel_sendAll_34
    | succ d3 ih3 =>
      intro i ls H locs hid3  hl hP hD hS
      refine lv_iload hx hb dModel_sendAll_3 (lv_at hl 0 rfl) ?_
      refine lv_aload_n hx hb dModel_sendAll_5 rfl (lv_at hl 1 rfl) ?_
      refine va_get (D := D) (ci := 5) (v := .int (nI n)) (C := RModel) (T := TModel) (N := 25) hx hb hts (fun w h => mc (uModel_in w h)) hown hK hP 0 rfl rfl 0 (by decide) (hts _ (mc wd405)) (fun _ h9 => h9) rfl dModel_sendAll_6 ?_
      refine lv_icmp_ge (tgt := 34) hx hb dModel_sendAll_9 (by decide) (fun h9 => absurd h9 (nI_ge (by omega) (by omega))) (fun _ => ?_)
      have hci : cntx P (sendA P x k s1 sl b v i) < P := by rw [cnt_sendA hk0 i (by omega)]; omega
      refine lv_aload_n hx hb dModel_sendAll_12 rfl (lv_at hl 1 rfl) ?_
      refine lv_iload_n hx hb dModel_sendAll_13 rfl (lv_at hl 2 rfl) ?_
      refine lv_iload_n hx hb dModel_sendAll_14 rfl (lv_at hl 3 rfl) ?_
      refine lv_iload hx hb dModel_sendAll_15 (lv_at hl 0 rfl) ?_
      refine lv_iload_n hx hb dModel_sendAll_17 rfl (lv_at hl 4 rfl) ?_
      refine lv_iload hx hb dModel_sendAll_18 (lv_at hl 5 rfl) ?_
      refine lv_iload hx hb dModel_sendAll_20 (lv_at hl 6 rfl) ?_
      refine lv_iconst (v := (-1)) hx hb dModel_sendAll_22 (by decide) ?_
      have hPc := hP.sub (ws' := (wM qm cI cZ n S P (sendA P x k s1 sl b v i))) [0, 1, 2, 3, 4, 5, 6, 7, 8, 9, 10, 11, 12, 13, 14, 15, 16, 17, 18, 19, 20] rfl
      have hDc := hD.sub (ws' := (wM qm cI cZ n S P (sendA P x k s1 sl b v i))) [0, 1, 2, 3, 4, 5, 6, 7, 8, 9, 10, 11, 12, 13, 14, 15, 16, 17, 18, 19, 20] (by decide) rfl
      refine kx_i (va_runV (As := [.int k, .int s1, .int (nI i), .int sl, .int b, .int v, .int (-1)]) (rest := []) ⟨hx, hb, hml, hown, hts⟩ ((m_send l D cI cZ qm n S P (sendA P x k s1 sl b v i) k s1 (nI i) sl b v (-1) (hn1) (hn5) (hS1) (hS4) (hP5) (hP64) (Imsg_A hM i (fun j hj => hVs j (by omega))) (hci)) H.size) (cwV 7 hts (gV wd502 wd504 sl_Model_send wd7 wd505) rfl rfl rfl (by decide +kernel) ⟨Nat.le_of_ble_eq_true rfl, Nat.le_of_ble_eq_true rfl⟩) ⟨fb_PW, va_recv (q0 := 0) (ci := 5) hK hPc rfl rfl, pre_PW hK hPc hDc hZ⟩ rfl rfl hl.1 rfl (lv_room (Nat.le_of_ble_eq_true rfl)) dModel_sendAll_23 ⟨Nat.zero_le _, Nat.zero_le _⟩) hP hD hS hA [0, 1, 2, 3, 4, 5, 6, 7, 8, 9, 10, 11, 12, 13, 14, 15, 16, 17, 18, 19, 20] [] rfl rfl (by decide) (by decide) (fun r w1 H locs hw hP hD hS => ?_)
      obtain ⟨rfl, rfl⟩ := hw
      have hP : va_P D vwCl (wM qm cI cZ n S P (send1 P (sendA P x k s1 sl b v i) k s1 (nI i) sl b v (-1))) H := hP
      have hD : va_D A (wM qm cI cZ n S P (send1 P (sendA P x k s1 sl b v i) k s1 (nI i) sl b v (-1))) := hD
      have hP : va_P D vwCl (wM qm cI cZ n S P (sendA P x k s1 sl b v (i + 1))) H := hP
      have hD : va_D A (wM qm cI cZ n S P (sendA P x k s1 sl b v (i + 1))) := hD
      refine lv_istore hx hb dModel_sendAll_26 hl (by decide) rfl (fun ls hl => ?_)
      have hl : lv_has ls 8 [(7, .int (nI (lst (col ((sendA P x k s1 sl b v i).1 0) 0) P 0))), (6, .int (nI i)), (0, .ref (qm 0)), (1, .int k), (2, .int s1), (3, .int sl), (4, .int b), (5, .int v)] := hl
      refine lv_iinc (k := 1) (v := nI (i + 1)) hx hb dModel_sendAll_28 hl rfl ((nI_succ _).symm) (by decide) rfl (fun ls hl => ?_)
      have hl : lv_has ls 8 [(6, .int (nI (i + 1))), (7, .int (nI (lst (col ((sendA P x k s1 sl b v i).1 0) 0) P 0))), (0, .ref (qm 0)), (1, .int k), (2, .int s1), (3, .int sl), (4, .int b), (5, .int v)] := hl
      refine lv_goto (tgt := 3) hx hb dModel_sendAll_31 (by decide) ?_
      exact ih3 (i + 1) ls H locs (by omega) (lv_sub hl [0, 2, 3, 4, 5, 6, 7] rfl) hP hD hS
  exact loop3 n 0 ls s.heap [] (by omega) hl hP hD hS
theorem dModel_bits_0 : decode cModel_bits 0 = .ok (.iconst 0, 1) := by decide +kernel
theorem dModel_bits_1 : decode cModel_bits 1 = .ok (.istore_n 1, 1) := by decide +kernel
theorem dModel_bits_2 : decode cModel_bits 2 = .ok (.iconst 0, 1) := by decide +kernel
theorem dModel_bits_3 : decode cModel_bits 3 = .ok (.istore_n 2, 1) := by decide +kernel
theorem dModel_bits_4 : decode cModel_bits 4 = .ok (.iload_n 2, 1) := by decide +kernel
theorem dModel_bits_5 : decode cModel_bits 5 = .ok (.iconst 5, 1) := by decide +kernel
theorem dModel_bits_6 : decode cModel_bits 6 = .ok (.if_icmp .ge 17, 3) := by decide +kernel
theorem dModel_bits_9 : decode cModel_bits 9 = .ok (.iload_n 1, 1) := by decide +kernel
theorem dModel_bits_10 : decode cModel_bits 10 = .ok (.iload_n 0, 1) := by decide +kernel
theorem dModel_bits_11 : decode cModel_bits 11 = .ok (.iload_n 2, 1) := by decide +kernel
theorem dModel_bits_12 : decode cModel_bits 12 = .ok (.ishr, 1) := by decide +kernel
theorem dModel_bits_13 : decode cModel_bits 13 = .ok (.iconst 1, 1) := by decide +kernel
theorem dModel_bits_14 : decode cModel_bits 14 = .ok (.iand, 1) := by decide +kernel
theorem dModel_bits_15 : decode cModel_bits 15 = .ok (.iadd, 1) := by decide +kernel
theorem dModel_bits_16 : decode cModel_bits 16 = .ok (.istore_n 1, 1) := by decide +kernel
theorem dModel_bits_17 : decode cModel_bits 17 = .ok (.iinc 2  1, 3) := by decide +kernel
theorem dModel_bits_20 : decode cModel_bits 20 = .ok (.goto (-16), 3) := by decide +kernel
theorem dModel_bits_23 : decode cModel_bits 23 = .ok (.iload_n 1, 1) := by decide +kernel
theorem dModel_bits_24 : decode cModel_bits 24 = .ok (.ireturn, 1) := by decide +kernel
set_option maxRecDepth 100000 in
set_option maxHeartbeats 4000000 in
theorem m_bits (l : Launch) (D : va_G) (cI cZ : ClassId) (k : Nat) (hk32 : k < 32) : MI l D [(cI, .int), (cZ, .boolean)] yModel_bits wsModel_bits ({ frames := 0, cells := 0, slots := 0, locals := 0 }) [.int (nI k)] ([] : va_W) (fun r w => r = nI (popn k) ∧ w = ([] : va_W)) := by
  intro sz
  refine Met.ofW (cc := cModel_bits) (maxL := 3) (ret := (Option.some .int)) (by decide) rfl ?_
  intro p e s m args below meth c s₁ B hml hv
  obtain ⟨rfl, hsz, hP, hK, hD0, hZ⟩ := hv
  have hx := B.exec
  have hb := B.bytes
  have hr := B.returns
  have hts := atoms_spec (ws := wsModel_bits) B.pre
  have hown : s.vm.findClass RModel = some m.cls := findClass_of_methodNamed B.named
  have hlocks := B.notSynchronized
  subst hsz
  have hD := hD0.self (sz := s.heap.size)
  generalize hAe : va_A ([] : va_W) s.heap.size = A at hD ⊢
  have hA : ∀ q : Nat, s.heap.size ≤ q → A q := fun q h => by rw [← hAe]; exact Or.inr h
  have hS : va_S A s.heap s.heap [] := va_S.rf
  have hP : va_P D vwCl ([] : va_W) s.heap := hP
  have hl := lv_entry ([.int (nI k)]) (n := 3) (Nat.le_of_ble_eq_true rfl)
  rw [lg_entry_eq]
  generalize (lg_sl ([.int (nI k)]) ++ List.replicate (3 - (lg_sl ([.int (nI k)])).length) Slot.unset).toArray = ls at hl ⊢
  have hl : lv_has ls 3 [(0, .int (nI k))] := hl
  refine lv_iconst (v := nI 0) hx hb dModel_bits_0 (by decide) ?_
  refine lv_istore_n hx hb dModel_bits_1 rfl hl (by decide) rfl (fun ls hl => ?_)
  have hl : lv_has ls 3 [(1, .int (nI 0)), (0, .int (nI k))] := hl
  refine lv_iconst (v := nI 0) hx hb dModel_bits_2 (by decide) ?_
  refine lv_istore_n hx hb dModel_bits_3 rfl hl (by decide) rfl (fun ls hl => ?_)
  have hl : lv_has ls 3 [(2, .int (nI 0)), (1, .int (nI 0)), (0, .int (nI k))] := hl
  have loop4 : ∀ (d4 i : Nat) (ls : Array Slot) (H : Heap) (locs : List Loc), i + d4 = 5 → lv_has ls 3 [(2, .int (nI i)), (1, .int (nI (popi k i))), (0, .int (nI k))] → va_P D vwCl ([] : va_W) H → va_D A ([] : va_W) → va_S A s.heap H locs → W p l e (headSpec wsModel_bits { frames := 0, cells := 0, slots := 0, locals := 0 }).room s m [.int (nI k)].toArray below meth c H locs 0 0 (MQ below (va_Qi (fun r w => r = nI (popn k) ∧ w = ([] : va_W)) (QW D [(cI, .int), (cZ, .boolean)] A) A) [.int (nI k)].toArray s 0 0 A) (F0 m 4 ls []) := by
    intro d4
    induction d4 with
    | zero =>
      intro i ls H locs hid4  hl hP hD hS
      refine lv_iload_n hx hb dModel_bits_4 rfl (lv_at hl 0 rfl) ?_
      refine lv_iconst (v := nI 5) hx hb dModel_bits_5 (by decide) ?_
      refine lv_icmp_ge (tgt := 23) hx hb dModel_bits_6 (by decide) (fun _ => ?_) (fun h9 => absurd (nI_le (by omega) (by omega)) h9)
      refine lv_iload_n hx hb dModel_bits_23 rfl (lv_at hl 1 rfl) ?_
      have hin : i = 5 := by omega
      rw [hin, popi_fin k hk32]
      exact W.iret (v := nI (popn k)) hx hb hr (fun t9 ht9 hW9 => ⟨⟨nI (popn k), ([] : va_W), rfl, ⟨rfl, rfl⟩, by rw [ht9]; exact hP, va_K.moved hW9.alike hK, hD⟩, hS.F ht9⟩) hS.2.2 dModel_bits_24
    | succ d4 ih4 =>
      intro i ls H locs hid4  hl hP hD hS
      refine lv_iload_n hx hb dModel_bits_4 rfl (lv_at hl 0 rfl) ?_
      refine lv_iconst (v := nI 5) hx hb dModel_bits_5 (by decide) ?_
      refine lv_icmp_ge (tgt := 23) hx hb dModel_bits_6 (by decide) (fun h9 => absurd h9 (nI_ge (by omega) (by omega))) (fun _ => ?_)
      refine lv_iload_n hx hb dModel_bits_9 rfl (lv_at hl 1 rfl) ?_
      refine lv_iload_n hx hb dModel_bits_10 rfl (lv_at hl 2 rfl) ?_
      refine lv_iload_n hx hb dModel_bits_11 rfl (lv_at hl 0 rfl) ?_
      refine lv_ishr hx hb dModel_bits_12 ?_
      refine lv_iconst (v := nI 1) hx hb dModel_bits_13 (by decide) ?_
      refine lv_iand hx hb dModel_bits_14 ?_
      refine lv_topi (nm_r (bit_fin k hk32 i (by omega)) ?_)
      refine lv_iadd hx hb dModel_bits_15 ?_
      refine lv_topi (nm_r (nI_add _ _) ?_)
      refine lv_istore_n hx hb dModel_bits_16 rfl hl (by decide) rfl (fun ls hl => ?_)
      have hl : lv_has ls 3 [(1, .int (nI (popi k (i + 1)))), (2, .int (nI i)), (0, .int (nI k))] := hl
      refine lv_iinc (k := 1) (v := nI (i + 1)) hx hb dModel_bits_17 hl rfl ((nI_succ _).symm) (by decide) rfl (fun ls hl => ?_)
      have hl : lv_has ls 3 [(2, .int (nI (i + 1))), (1, .int (nI (popi k (i + 1)))), (0, .int (nI k))] := hl
      refine lv_goto (tgt := 4) hx hb dModel_bits_20 (by decide) ?_
      exact ih4 (i + 1) ls H locs (by omega) hl hP hD hS
  exact loop4 5 0 ls s.heap [] (by omega) hl hP hD hS
theorem dModel_isAwaited_0 : decode cModel_isAwaited 0 = .ok (.iconst 4, 1) := by decide +kernel
theorem dModel_isAwaited_1 : decode cModel_isAwaited 1 = .ok (.aload_n 0, 1) := by decide +kernel
theorem dModel_isAwaited_2 : decode cModel_isAwaited 2 = .ok (.getfield 20, 3) := by decide +kernel
theorem dModel_isAwaited_5 : decode cModel_isAwaited 5 = .ok (.iload_n 1, 1) := by decide +kernel
theorem dModel_isAwaited_6 : decode cModel_isAwaited 6 = .ok (.iaload, 1) := by decide +kernel
theorem dModel_isAwaited_7 : decode cModel_isAwaited 7 = .ok (.imul, 1) := by decide +kernel
theorem dModel_isAwaited_8 : decode cModel_isAwaited 8 = .ok (.aload_n 0, 1) := by decide +kernel
theorem dModel_isAwaited_9 : decode cModel_isAwaited 9 = .ok (.getfield 23, 3) := by decide +kernel
theorem dModel_isAwaited_12 : decode cModel_isAwaited 12 = .ok (.iload_n 1, 1) := by decide +kernel
theorem dModel_isAwaited_13 : decode cModel_isAwaited 13 = .ok (.iaload, 1) := by decide +kernel
theorem dModel_isAwaited_14 : decode cModel_isAwaited 14 = .ok (.iadd, 1) := by decide +kernel
theorem dModel_isAwaited_15 : decode cModel_isAwaited 15 = .ok (.istore_n 2, 1) := by decide +kernel
theorem dModel_isAwaited_16 : decode cModel_isAwaited 16 = .ok (.aload_n 0, 1) := by decide +kernel
theorem dModel_isAwaited_17 : decode cModel_isAwaited 17 = .ok (.getfield 38, 3) := by decide +kernel
theorem dModel_isAwaited_20 : decode cModel_isAwaited 20 = .ok (.iload_n 2, 1) := by decide +kernel
theorem dModel_isAwaited_21 : decode cModel_isAwaited 21 = .ok (.iaload, 1) := by decide +kernel
theorem dModel_isAwaited_22 : decode cModel_isAwaited 22 = .ok (.iconst 1, 1) := by decide +kernel
theorem dModel_isAwaited_23 : decode cModel_isAwaited 23 = .ok (.if_icmp .ne 22, 3) := by decide +kernel
theorem dModel_isAwaited_26 : decode cModel_isAwaited 26 = .ok (.aload_n 0, 1) := by decide +kernel
theorem dModel_isAwaited_27 : decode cModel_isAwaited 27 = .ok (.getfield 26, 3) := by decide +kernel
theorem dModel_isAwaited_30 : decode cModel_isAwaited 30 = .ok (.iload_n 1, 1) := by decide +kernel
theorem dModel_isAwaited_31 : decode cModel_isAwaited 31 = .ok (.iaload, 1) := by decide +kernel
theorem dModel_isAwaited_32 : decode cModel_isAwaited 32 = .ok (.aload_n 0, 1) := by decide +kernel
theorem dModel_isAwaited_33 : decode cModel_isAwaited 33 = .ok (.getfield 35, 3) := by decide +kernel
theorem dModel_isAwaited_36 : decode cModel_isAwaited 36 = .ok (.iload_n 2, 1) := by decide +kernel
theorem dModel_isAwaited_37 : decode cModel_isAwaited 37 = .ok (.iaload, 1) := by decide +kernel
theorem dModel_isAwaited_38 : decode cModel_isAwaited 38 = .ok (.if_icmp .ne 7, 3) := by decide +kernel
theorem dModel_isAwaited_41 : decode cModel_isAwaited 41 = .ok (.iconst 1, 1) := by decide +kernel
theorem dModel_isAwaited_42 : decode cModel_isAwaited 42 = .ok (.goto 4, 3) := by decide +kernel
theorem dModel_isAwaited_45 : decode cModel_isAwaited 45 = .ok (.iconst 0, 1) := by decide +kernel
theorem dModel_isAwaited_46 : decode cModel_isAwaited 46 = .ok (.ireturn, 1) := by decide +kernel
set_option maxRecDepth 100000 in
set_option maxHeartbeats 4000000 in
theorem m_isAwaited (l : Launch) (D : va_G) (cI cZ : ClassId) (qm : Nat → Nat) (n : Nat) (S : Nat) (P : Nat) (x : St) (j : Nat) (a : Nat) (t : Nat) (hn1 : 1 ≤ n) (hn5 : n ≤ 5) (hS1 : 1 ≤ S) (hS4 : S ≤ 4) (hP5 : 5 ≤ P) (hP64 : P ≤ 64) (hj : j < 64) (ha : a < n) (ht : t < S) (hrc : x.1 0 j 2 = nI a) (hsl : x.1 0 j 3 = nI t) : MI l D [(cI, .int), (cZ, .boolean)] yModel_isAwaited wsModel_isAwaited ({ frames := 0, cells := 0, slots := 0, locals := 0 }) [.ref (qm 0), .int (nI j)] (wM qm cI cZ n S P x) (fun r w => (r = nI 1 ∧ (x.1 1 a t = nI 1 ∧ x.1 2 a t = x.1 0 j 4) ∧ w = (wM qm cI cZ n S P x)) ∨ (r = nI 0 ∧ (¬ (x.1 1 a t = nI 1 ∧ x.1 2 a t = x.1 0 j 4)) ∧ w = (wM qm cI cZ n S P x))) := by
  intro sz
  refine Met.ofW (cc := cModel_isAwaited) (maxL := 3) (ret := (Option.some .boolean)) (by decide) rfl ?_
  intro p e s m args below meth c s₁ B hml hv
  obtain ⟨rfl, hsz, hP, hK, hD0, hZ⟩ := hv
  have hx := B.exec
  have hb := B.bytes
  have hr := B.returns
  have hts := atoms_spec (ws := wsModel_isAwaited) B.pre
  have hown : s.vm.findClass RModel = some m.cls := findClass_of_methodNamed B.named
  have hlocks := B.notSynchronized
  subst hsz
  have hD := hD0.self (sz := s.heap.size)
  generalize hAe : va_A (wM qm cI cZ n S P x) s.heap.size = A at hD ⊢
  have hA : ∀ q : Nat, s.heap.size ≤ q → A q := fun q h => by rw [← hAe]; exact Or.inr h
  have hS : va_S A s.heap s.heap [] := va_S.rf
  have hP : va_P D vwCl (wM qm cI cZ n S P x) s.heap := hP
  have hl := lv_entry ([.ref (qm 0), .int (nI j)]) (n := 3) (Nat.le_of_ble_eq_true rfl)
  rw [lg_entry_eq]
  generalize (lg_sl ([.ref (qm 0), .int (nI j)]) ++ List.replicate (3 - (lg_sl ([.ref (qm 0), .int (nI j)])).length) Slot.unset).toArray = ls at hl ⊢
  have hl : lv_has ls 3 [(0, .ref (qm 0)), (1, .int (nI j))] := hl
  refine lv_iconst (v := nI 4) hx hb dModel_isAwaited_0 (by decide) ?_
  refine lv_aload_n hx hb dModel_isAwaited_1 rfl (lv_at hl 0 rfl) ?_
  refine va_get (D := D) (ci := 5) (v := .ref (qm 4)) (C := RModel) (T := TModel) (N := 25) hx hb hts (fun w h => mc (uModel_in w h)) hown hK hP 0 rfl rfl 6 (by decide) (hts _ (mc wd411)) (fun _ h9 => h9) rfl dModel_isAwaited_2 ?_
  refine lv_iload_n hx hb dModel_isAwaited_5 rfl (lv_at hl 1 rfl) ?_
  refine ka_ld (v := nI a) hx hb hK hP 4 0 rfl rfl (by omega) (by omega) hrc dModel_isAwaited_6 ?_
  refine lv_imul hx hb dModel_isAwaited_7 ?_
  refine lv_topi (nm_r ((pk_mul _ _).trans (congrArg nI (Nat.mul_comm _ _))) ?_)
  refine lv_aload_n hx hb dModel_isAwaited_8 rfl (lv_at hl 0 rfl) ?_
  refine va_get (D := D) (ci := 5) (v := .ref (qm 5)) (C := RModel) (T := TModel) (N := 25) hx hb hts (fun w h => mc (uModel_in w h)) hown hK hP 0 rfl rfl 7 (by decide) (hts _ (mc wd412)) (fun _ h9 => h9) rfl dModel_isAwaited_9 ?_
  refine lv_iload_n hx hb dModel_isAwaited_12 rfl (lv_at hl 1 rfl) ?_
  refine ka_ld (v := nI t) hx hb hK hP 5 0 rfl rfl (by omega) (by omega) hsl dModel_isAwaited_13 ?_
  refine lv_iadd hx hb dModel_isAwaited_14 ?_
  refine lv_topi (nm_r (nI_add _ _) ?_)
  refine lv_istore_n hx hb dModel_isAwaited_15 rfl hl (by decide) rfl (fun ls hl => ?_)
  have hl : lv_has ls 3 [(2, .int (nI (a * 4 + t))), (0, .ref (qm 0)), (1, .int (nI j))] := hl
  refine lv_aload_n hx hb dModel_isAwaited_16 rfl (lv_at hl 1 rfl) ?_
  refine va_get (D := D) (ci := 5) (v := .ref (qm 10)) (C := RModel) (T := TModel) (N := 25) hx hb hts (fun w h => mc (uModel_in w h)) hown hK hP 0 rfl rfl 12 (by decide) (hts _ (mc wd417)) (fun _ h9 => h9) rfl dModel_isAwaited_17 ?_
  refine lv_iload_n hx hb dModel_isAwaited_20 rfl (lv_at hl 0 rfl) ?_
  refine ka_ld (v := x.1 1 a t) hx hb hK hP 10 0 rfl rfl (by omega) (by omega) (sq_at (by omega)) dModel_isAwaited_21 ?_
  refine lv_iconst (v := nI 1) hx hb dModel_isAwaited_22 (by decide) ?_
  refine lv_icmp_ne (tgt := 45) hx hb dModel_isAwaited_23 (by decide) (fun c23 => ?_) (fun c23 => ?_)
  · refine lv_iconst (v := nI 0) hx hb dModel_isAwaited_45 (by decide) ?_
    exact W.zret (v := nI 0) (ty := .boolean) hx hb hr (by decide) (fun t9 ht9 hW9 => ⟨⟨nI 0, (wM qm cI cZ n S P x), rfl, Or.inr ⟨rfl, fun h => c23 h.1, rfl⟩, by rw [ht9]; exact hP, va_K.moved hW9.alike hK, hD⟩, hS.F ht9⟩) hS.2.2 dModel_isAwaited_46
  · refine lv_aload_n hx hb dModel_isAwaited_26 rfl (lv_at hl 1 rfl) ?_
    refine va_get (D := D) (ci := 5) (v := .ref (qm 6)) (C := RModel) (T := TModel) (N := 25) hx hb hts (fun w h => mc (uModel_in w h)) hown hK hP 0 rfl rfl 8 (by decide) (hts _ (mc wd413)) (fun _ h9 => h9) rfl dModel_isAwaited_27 ?_
    refine lv_iload_n hx hb dModel_isAwaited_30 rfl (lv_at hl 2 rfl) ?_
    refine ka_ld (v := x.1 0 j 4) hx hb hK hP 6 0 rfl rfl (by omega) (by omega) rfl dModel_isAwaited_31 ?_
    refine lv_aload_n hx hb dModel_isAwaited_32 rfl (lv_at hl 1 rfl) ?_
    refine va_get (D := D) (ci := 5) (v := .ref (qm 9)) (C := RModel) (T := TModel) (N := 25) hx hb hts (fun w h => mc (uModel_in w h)) hown hK hP 0 rfl rfl 11 (by decide) (hts _ (mc wd416)) (fun _ h9 => h9) rfl dModel_isAwaited_33 ?_
    refine lv_iload_n hx hb dModel_isAwaited_36 rfl (lv_at hl 0 rfl) ?_
    refine ka_ld (v := x.1 2 a t) hx hb hK hP 9 0 rfl rfl (by omega) (by omega) (sq_at (by omega)) dModel_isAwaited_37 ?_
    refine lv_icmp_ne (tgt := 45) hx hb dModel_isAwaited_38 (by decide) (fun c38 => ?_) (fun c38 => ?_)
    · refine lv_iconst (v := nI 0) hx hb dModel_isAwaited_45 (by decide) ?_
      exact W.zret (v := nI 0) (ty := .boolean) hx hb hr (by decide) (fun t9 ht9 hW9 => ⟨⟨nI 0, (wM qm cI cZ n S P x), rfl, Or.inr ⟨rfl, fun h => c38 h.2.symm, rfl⟩, by rw [ht9]; exact hP, va_K.moved hW9.alike hK, hD⟩, hS.F ht9⟩) hS.2.2 dModel_isAwaited_46
    · refine lv_iconst (v := nI 1) hx hb dModel_isAwaited_41 (by decide) ?_
      refine lv_goto (tgt := 46) hx hb dModel_isAwaited_42 (by decide) ?_
      exact W.zret (v := nI 1) (ty := .boolean) hx hb hr (by decide) (fun t9 ht9 hW9 => ⟨⟨nI 1, (wM qm cI cZ n S P x), rfl, Or.inl ⟨rfl, ⟨c23, c38.symm⟩, rfl⟩, by rw [ht9]; exact hP, va_K.moved hW9.alike hK, hD⟩, hS.F ht9⟩) hS.2.2 dModel_isAwaited_46
theorem dModel_withPromise_0 : decode cModel_withPromise 0 = .ok (.aload_n 0, 1) := by decide +kernel
theorem dModel_withPromise_1 : decode cModel_withPromise 1 = .ok (.getfield 44, 3) := by decide +kernel
theorem dModel_withPromise_4 : decode cModel_withPromise 4 = .ok (.iconst 4, 1) := by decide +kernel
theorem dModel_withPromise_5 : decode cModel_withPromise 5 = .ok (.aload_n 0, 1) := by decide +kernel
theorem dModel_withPromise_6 : decode cModel_withPromise 6 = .ok (.getfield 20, 3) := by decide +kernel
theorem dModel_withPromise_9 : decode cModel_withPromise 9 = .ok (.iload_n 1, 1) := by decide +kernel
theorem dModel_withPromise_10 : decode cModel_withPromise 10 = .ok (.iaload, 1) := by decide +kernel
theorem dModel_withPromise_11 : decode cModel_withPromise 11 = .ok (.imul, 1) := by decide +kernel
theorem dModel_withPromise_12 : decode cModel_withPromise 12 = .ok (.aload_n 0, 1) := by decide +kernel
theorem dModel_withPromise_13 : decode cModel_withPromise 13 = .ok (.getfield 23, 3) := by decide +kernel
theorem dModel_withPromise_16 : decode cModel_withPromise 16 = .ok (.iload_n 1, 1) := by decide +kernel
theorem dModel_withPromise_17 : decode cModel_withPromise 17 = .ok (.iaload, 1) := by decide +kernel
theorem dModel_withPromise_18 : decode cModel_withPromise 18 = .ok (.iadd, 1) := by decide +kernel
theorem dModel_withPromise_19 : decode cModel_withPromise 19 = .ok (.iaload, 1) := by decide +kernel
theorem dModel_withPromise_20 : decode cModel_withPromise 20 = .ok (.iconst 1, 1) := by decide +kernel
theorem dModel_withPromise_21 : decode cModel_withPromise 21 = .ok (.aload_n 0, 1) := by decide +kernel
theorem dModel_withPromise_22 : decode cModel_withPromise 22 = .ok (.getfield 17, 3) := by decide +kernel
theorem dModel_withPromise_25 : decode cModel_withPromise 25 = .ok (.iload_n 1, 1) := by decide +kernel
theorem dModel_withPromise_26 : decode cModel_withPromise 26 = .ok (.iaload, 1) := by decide +kernel
theorem dModel_withPromise_27 : decode cModel_withPromise 27 = .ok (.ishl, 1) := by decide +kernel
theorem dModel_withPromise_28 : decode cModel_withPromise 28 = .ok (.ior, 1) := by decide +kernel
theorem dModel_withPromise_29 : decode cModel_withPromise 29 = .ok (.ireturn, 1) := by decide +kernel
set_option maxRecDepth 100000 in
set_option maxHeartbeats 4000000 in
theorem m_withPromise (l : Launch) (D : va_G) (cI cZ : ClassId) (qm : Nat → Nat) (n : Nat) (S : Nat) (P : Nat) (x : St) (j : Nat) (a : Nat) (t : Nat) (hn1 : 1 ≤ n) (hn5 : n ≤ 5) (hS1 : 1 ≤ S) (hS4 : S ≤ 4) (hP5 : 5 ≤ P) (hP64 : P ≤ 64) (hj : j < 64) (ha : a < n) (ht : t < S) (hrc : x.1 0 j 2 = nI a) (hsl : x.1 0 j 3 = nI t) : MI l D [(cI, .int), (cZ, .boolean)] yModel_withPromise wsModel_withPromise ({ frames := 0, cells := 0, slots := 0, locals := 0 }) [.ref (qm 0), .int (nI j)] (wM qm cI cZ n S P x) (fun r w => r = orb (x.1 3 a t) (x.1 0 j 1) ∧ w = (wM qm cI cZ n S P x)) := by
  intro sz
  refine Met.ofW (cc := cModel_withPromise) (maxL := 2) (ret := (Option.some .int)) (by decide) rfl ?_
  intro p e s m args below meth c s₁ B hml hv
  obtain ⟨rfl, hsz, hP, hK, hD0, hZ⟩ := hv
  have hx := B.exec
  have hb := B.bytes
  have hr := B.returns
  have hts := atoms_spec (ws := wsModel_withPromise) B.pre
  have hown : s.vm.findClass RModel = some m.cls := findClass_of_methodNamed B.named
  have hlocks := B.notSynchronized
  subst hsz
  have hD := hD0.self (sz := s.heap.size)
  generalize hAe : va_A (wM qm cI cZ n S P x) s.heap.size = A at hD ⊢
  have hA : ∀ q : Nat, s.heap.size ≤ q → A q := fun q h => by rw [← hAe]; exact Or.inr h
  have hS : va_S A s.heap s.heap [] := va_S.rf
  have hP : va_P D vwCl (wM qm cI cZ n S P x) s.heap := hP
  have hl := lv_entry ([.ref (qm 0), .int (nI j)]) (n := 2) (Nat.le_of_ble_eq_true rfl)
  rw [lg_entry_eq]
  generalize (lg_sl ([.ref (qm 0), .int (nI j)]) ++ List.replicate (2 - (lg_sl ([.ref (qm 0), .int (nI j)])).length) Slot.unset).toArray = ls at hl ⊢
  have hl : lv_has ls 2 [(0, .ref (qm 0)), (1, .int (nI j))] := hl
  refine lv_aload_n hx hb dModel_withPromise_0 rfl (lv_at hl 0 rfl) ?_
  refine va_get (D := D) (ci := 5) (v := .ref (qm 12)) (C := RModel) (T := TModel) (N := 25) hx hb hts (fun w h => mc (uModel_in w h)) hown hK hP 0 rfl rfl 14 (by decide) (hts _ (mc wd419)) (fun _ h9 => h9) rfl dModel_withPromise_1 ?_
  refine lv_iconst (v := nI 4) hx hb dModel_withPromise_4 (by decide) ?_
  refine lv_aload_n hx hb dModel_withPromise_5 rfl (lv_at hl 0 rfl) ?_
  refine va_get (D := D) (ci := 5) (v := .ref (qm 4)) (C := RModel) (T := TModel) (N := 25) hx hb hts (fun w h => mc (uModel_in w h)) hown hK hP 0 rfl rfl 6 (by decide) (hts _ (mc wd411)) (fun _ h9 => h9) rfl dModel_withPromise_6 ?_
  refine lv_iload_n hx hb dModel_withPromise_9 rfl (lv_at hl 1 rfl) ?_
  refine ka_ld (v := nI a) hx hb hK hP 4 0 rfl rfl (by omega) (by omega) hrc dModel_withPromise_10 ?_
  refine lv_imul hx hb dModel_withPromise_11 ?_
  refine lv_topi (nm_r ((pk_mul _ _).trans (congrArg nI (Nat.mul_comm _ _))) ?_)
  refine lv_aload_n hx hb dModel_withPromise_12 rfl (lv_at hl 0 rfl) ?_
  refine va_get (D := D) (ci := 5) (v := .ref (qm 5)) (C := RModel) (T := TModel) (N := 25) hx hb hts (fun w h => mc (uModel_in w h)) hown hK hP 0 rfl rfl 7 (by decide) (hts _ (mc wd412)) (fun _ h9 => h9) rfl dModel_withPromise_13 ?_
  refine lv_iload_n hx hb dModel_withPromise_16 rfl (lv_at hl 1 rfl) ?_
  refine ka_ld (v := nI t) hx hb hK hP 5 0 rfl rfl (by omega) (by omega) hsl dModel_withPromise_17 ?_
  refine lv_iadd hx hb dModel_withPromise_18 ?_
  refine lv_topi (nm_r (nI_add _ _) ?_)
  refine ka_ld (v := x.1 3 a t) hx hb hK hP 12 0 rfl rfl (by omega) (by omega) (sq_at (by omega)) dModel_withPromise_19 ?_
  refine lv_iconst (v := nI 1) hx hb dModel_withPromise_20 (by decide) ?_
  refine lv_aload_n hx hb dModel_withPromise_21 rfl (lv_at hl 0 rfl) ?_
  refine va_get (D := D) (ci := 5) (v := .ref (qm 3)) (C := RModel) (T := TModel) (N := 25) hx hb hts (fun w h => mc (uModel_in w h)) hown hK hP 0 rfl rfl 5 (by decide) (hts _ (mc wd410)) (fun _ h9 => h9) rfl dModel_withPromise_22 ?_
  refine lv_iload_n hx hb dModel_withPromise_25 rfl (lv_at hl 1 rfl) ?_
  refine ka_ld (v := x.1 0 j 1) hx hb hK hP 3 0 rfl rfl (by omega) (by omega) rfl dModel_withPromise_26 ?_
  refine lv_ishl hx hb dModel_withPromise_27 ?_
  refine lv_ior hx hb dModel_withPromise_28 ?_
  refine lv_topi (nm_r (rfl) ?_)
  exact W.iret (v := orb (x.1 3 a t) (x.1 0 j 1)) hx hb hr (fun t9 ht9 hW9 => ⟨⟨orb (x.1 3 a t) (x.1 0 j 1), (wM qm cI cZ n S P x), rfl, ⟨rfl, rfl⟩, by rw [ht9]; exact hP, va_K.moved hW9.alike hK, hD⟩, hS.F ht9⟩) hS.2.2 dModel_withPromise_29
theorem dModel_learn_0 : decode cModel_learn 0 = .ok (.iconst 4, 1) := by decide +kernel
theorem dModel_learn_1 : decode cModel_learn 1 = .ok (.iload_n 1, 1) := by decide +kernel
theorem dModel_learn_2 : decode cModel_learn 2 = .ok (.imul, 1) := by decide +kernel
theorem dModel_learn_3 : decode cModel_learn 3 = .ok (.iload_n 2, 1) := by decide +kernel
theorem dModel_learn_4 : decode cModel_learn 4 = .ok (.iadd, 1) := by decide +kernel
theorem dModel_learn_5 : decode cModel_learn 5 = .ok (.istore 4, 2) := by decide +kernel
theorem dModel_learn_7 : decode cModel_learn 7 = .ok (.aload_n 0, 1) := by decide +kernel
theorem dModel_learn_8 : decode cModel_learn 8 = .ok (.getfield 68, 3) := by decide +kernel
theorem dModel_learn_11 : decode cModel_learn 11 = .ok (.iload 4, 2) := by decide +kernel
theorem dModel_learn_13 : decode cModel_learn 13 = .ok (.aload_n 0, 1) := by decide +kernel
theorem dModel_learn_14 : decode cModel_learn 14 = .ok (.getfield 68, 3) := by decide +kernel
theorem dModel_learn_17 : decode cModel_learn 17 = .ok (.iload 4, 2) := by decide +kernel
theorem dModel_learn_19 : decode cModel_learn 19 = .ok (.iaload, 1) := by decide +kernel
theorem dModel_learn_20 : decode cModel_learn 20 = .ok (.ifCond .ne 7, 3) := by decide +kernel
theorem dModel_learn_23 : decode cModel_learn 23 = .ok (.iload_n 3, 1) := by decide +kernel
theorem dModel_learn_24 : decode cModel_learn 24 = .ok (.goto 10, 3) := by decide +kernel
theorem dModel_learn_27 : decode cModel_learn 27 = .ok (.aload_n 0, 1) := by decide +kernel
theorem dModel_learn_28 : decode cModel_learn 28 = .ok (.getfield 68, 3) := by decide +kernel
theorem dModel_learn_31 : decode cModel_learn 31 = .ok (.iload 4, 2) := by decide +kernel
theorem dModel_learn_33 : decode cModel_learn 33 = .ok (.iaload, 1) := by decide +kernel
theorem dModel_learn_34 : decode cModel_learn 34 = .ok (.iastore, 1) := by decide +kernel
theorem dModel_learn_35 : decode cModel_learn 35 = .ok (.return_, 1) := by decide +kernel
set_option maxRecDepth 100000 in
set_option maxHeartbeats 4000000 in
theorem m_learn (l : Launch) (D : va_G) (cI cZ : ClassId) (qm : Nat → Nat) (n : Nat) (S : Nat) (P : Nat) (x : St) (a : Nat) (t : Nat) (v : Int32) (hn1 : 1 ≤ n) (hn5 : n ≤ 5) (hS1 : 1 ≤ S) (hS4 : S ≤ 4) (hP5 : 5 ≤ P) (hP64 : P ≤ 64) (ha : a < n) (ht : t < S) : MV l D [(cI, .int), (cZ, .boolean)] yModel_learn wsModel_learn ({ frames := 0, cells := 0, slots := 0, locals := 0 }) [.ref (qm 0), .int (nI a), .int (nI t), .int v] (wM qm cI cZ n S P x) (fun w => w = (wM qm cI cZ n S P (sLearn x a t v))) := by
  intro sz
  refine Met.ofW (cc := cModel_learn) (maxL := 5) (ret := (Option.none : Option ClassFile.FieldType)) (by decide) rfl ?_
  intro p e s m args below meth c s₁ B hml hv
  obtain ⟨rfl, hsz, hP, hK, hD0, hZ⟩ := hv
  have hx := B.exec
  have hb := B.bytes
  have hr := B.returns
  have hts := atoms_spec (ws := wsModel_learn) B.pre
  have hown : s.vm.findClass RModel = some m.cls := findClass_of_methodNamed B.named
  have hlocks := B.notSynchronized
  subst hsz
  have hD := hD0.self (sz := s.heap.size)
  generalize hAe : va_A (wM qm cI cZ n S P x) s.heap.size = A at hD ⊢
  have hA : ∀ q : Nat, s.heap.size ≤ q → A q := fun q h => by rw [← hAe]; exact Or.inr h
  have hS : va_S A s.heap s.heap [] := va_S.rf
  have hP : va_P D vwCl (wM qm cI cZ n S P x) s.heap := hP
  have hl := lv_entry ([.ref (qm 0), .int (nI a), .int (nI t), .int v]) (n := 5) (Nat.le_of_ble_eq_true rfl)
  rw [lg_entry_eq]
  generalize (lg_sl ([.ref (qm 0), .int (nI a), .int (nI t), .int v]) ++ List.replicate (5 - (lg_sl ([.ref (qm 0), .int (nI a), .int (nI t), .int v])).length) Slot.unset).toArray = ls at hl ⊢
  have hl : lv_has ls 5 [(0, .ref (qm 0)), (1, .int (nI a)), (2, .int (nI t)), (3, .int v)] := hl
  refine lv_iconst (v := nI 4) hx hb dModel_learn_0 (by decide) ?_
  refine lv_iload_n hx hb dModel_learn_1 rfl (lv_at hl 1 rfl) ?_
  refine lv_imul hx hb dModel_learn_2 ?_
  refine lv_topi (nm_r ((pk_mul _ _).trans (congrArg nI (Nat.mul_comm _ _))) ?_)
  refine lv_iload_n hx hb dModel_learn_3 rfl (lv_at hl 2 rfl) ?_
  refine lv_iadd hx hb dModel_learn_4 ?_
  refine lv_topi (nm_r (nI_add _ _) ?_)
  refine lv_istore hx hb dModel_learn_5 hl (by decide) rfl (fun ls hl => ?_)
  have hl : lv_has ls 5 [(4, .int (nI (a * 4 + t))), (0, .ref (qm 0)), (1, .int (nI a)), (2, .int (nI t)), (3, .int v)] := hl
  refine lv_aload_n hx hb dModel_learn_7 rfl (lv_at hl 1 rfl) ?_
  refine va_get (D := D) (ci := 5) (v := .ref (qm 20)) (C := RModel) (T := TModel) (N := 25) hx hb hts (fun w h => mc (uModel_in w h)) hown hK hP 0 rfl rfl 22 (by decide) (hts _ (mc wd427)) (fun _ h9 => h9) rfl dModel_learn_8 ?_
  refine lv_iload hx hb dModel_learn_11 (lv_at hl 0 rfl) ?_
  refine lv_aload_n hx hb dModel_learn_13 rfl (lv_at hl 1 rfl) ?_
  refine va_get (D := D) (ci := 5) (v := .ref (qm 20)) (C := RModel) (T := TModel) (N := 25) hx hb hts (fun w h => mc (uModel_in w h)) hown hK hP 0 rfl rfl 22 (by decide) (hts _ (mc wd427)) (fun _ h9 => h9) rfl dModel_learn_14 ?_
  refine lv_iload hx hb dModel_learn_17 (lv_at hl 0 rfl) ?_
  refine ka_ld (v := x.1 11 a t) hx hb hK hP 20 0 rfl rfl (by omega) (by omega) (sq_at (by omega)) dModel_learn_19 ?_
  refine lv_if_ne (tgt := 27) hx hb dModel_learn_20 (by decide) (fun c20 => ?_) (fun c20 => ?_)
  · refine lv_aload_n hx hb dModel_learn_27 rfl (lv_at hl 1 rfl) ?_
    refine va_get (D := D) (ci := 5) (v := .ref (qm 20)) (C := RModel) (T := TModel) (N := 25) hx hb hts (fun w h => mc (uModel_in w h)) hown hK hP 0 rfl rfl 22 (by decide) (hts _ (mc wd427)) (fun _ h9 => h9) rfl dModel_learn_28 ?_
    refine lv_iload hx hb dModel_learn_31 (lv_at hl 0 rfl) ?_
    refine ka_ld (v := x.1 11 a t) hx hb hK hP 20 0 rfl rfl (by omega) (by omega) (sq_at (by omega)) dModel_learn_33 ?_
    refine ka_st (f' := sq 4 (up2 (x.1 11) a t (x.1 11 a t))) hx hb hK hP hD hS 20 0 rfl rfl (by omega) (by omega) (sq_up (by omega)) dModel_learn_34 (fun H locs hP hD hS => ?_)
    have hP : va_P D vwCl (wR qm cI cZ n S P (col (x.1 13) 0) (col (x.1 0) 0) (col (x.1 0) 1) (col (x.1 0) 2) (col (x.1 0) 3) (col (x.1 0) 4) (col (x.1 0) 5) (col (x.1 0) 6) (sq 4 (x.1 2)) (sq 4 (x.1 1)) (sq 4 (x.1 6)) (sq 4 (x.1 3)) (sq 4 (x.1 4)) (sq 4 (x.1 7)) (sq 4 (x.1 8)) (sq 4 (x.1 9)) (sq 4 (x.1 10)) (hrm (x.2 0)) (hrm (x.2 1)) (sq 4 (up2 (x.1 11) a t (x.1 11 a t))) (x.1 12 0 0) (x.1 12 0 1)) H := hP
    have hD : va_D A (wR qm cI cZ n S P (col (x.1 13) 0) (col (x.1 0) 0) (col (x.1 0) 1) (col (x.1 0) 2) (col (x.1 0) 3) (col (x.1 0) 4) (col (x.1 0) 5) (col (x.1 0) 6) (sq 4 (x.1 2)) (sq 4 (x.1 1)) (sq 4 (x.1 6)) (sq 4 (x.1 3)) (sq 4 (x.1 4)) (sq 4 (x.1 7)) (sq 4 (x.1 8)) (sq 4 (x.1 9)) (sq 4 (x.1 10)) (hrm (x.2 0)) (hrm (x.2 1)) (sq 4 (up2 (x.1 11) a t (x.1 11 a t))) (x.1 12 0 0) (x.1 12 0 1)) := hD
    have hW1 : (wR qm cI cZ n S P (col (x.1 13) 0) (col (x.1 0) 0) (col (x.1 0) 1) (col (x.1 0) 2) (col (x.1 0) 3) (col (x.1 0) 4) (col (x.1 0) 5) (col (x.1 0) 6) (sq 4 (x.1 2)) (sq 4 (x.1 1)) (sq 4 (x.1 6)) (sq 4 (x.1 3)) (sq 4 (x.1 4)) (sq 4 (x.1 7)) (sq 4 (x.1 8)) (sq 4 (x.1 9)) (sq 4 (x.1 10)) (hrm (x.2 0)) (hrm (x.2 1)) (sq 4 (up2 (x.1 11) a t (x.1 11 a t))) (x.1 12 0 0) (x.1 12 0 1)) = (wM qm cI cZ n S P (sLearn x a t v)) := by unfold sLearn; rw [if_neg c20, up2_id]
    rw [hW1] at hP hD
    exact W.vret hx hb hr (fun t9 ht9 hW9 => ⟨⟨(wM qm cI cZ n S P (sLearn x a t v)), rfl, rfl, by rw [ht9]; exact hP, va_K.moved hW9.alike hK, hD⟩, hS.F ht9⟩) hS.2.2 dModel_learn_35
  · refine lv_iload_n hx hb dModel_learn_23 rfl (lv_at hl 4 rfl) ?_
    refine lv_goto (tgt := 34) hx hb dModel_learn_24 (by decide) ?_
    refine ka_st (f' := sq 4 (up2 (x.1 11) a t v)) hx hb hK hP hD hS 20 0 rfl rfl (by omega) (by omega) (sq_up (by omega)) dModel_learn_34 (fun H locs hP hD hS => ?_)
    have hP : va_P D vwCl (wR qm cI cZ n S P (col (x.1 13) 0) (col (x.1 0) 0) (col (x.1 0) 1) (col (x.1 0) 2) (col (x.1 0) 3) (col (x.1 0) 4) (col (x.1 0) 5) (col (x.1 0) 6) (sq 4 (x.1 2)) (sq 4 (x.1 1)) (sq 4 (x.1 6)) (sq 4 (x.1 3)) (sq 4 (x.1 4)) (sq 4 (x.1 7)) (sq 4 (x.1 8)) (sq 4 (x.1 9)) (sq 4 (x.1 10)) (hrm (x.2 0)) (hrm (x.2 1)) (sq 4 (up2 (x.1 11) a t v)) (x.1 12 0 0) (x.1 12 0 1)) H := hP
    have hD : va_D A (wR qm cI cZ n S P (col (x.1 13) 0) (col (x.1 0) 0) (col (x.1 0) 1) (col (x.1 0) 2) (col (x.1 0) 3) (col (x.1 0) 4) (col (x.1 0) 5) (col (x.1 0) 6) (sq 4 (x.1 2)) (sq 4 (x.1 1)) (sq 4 (x.1 6)) (sq 4 (x.1 3)) (sq 4 (x.1 4)) (sq 4 (x.1 7)) (sq 4 (x.1 8)) (sq 4 (x.1 9)) (sq 4 (x.1 10)) (hrm (x.2 0)) (hrm (x.2 1)) (sq 4 (up2 (x.1 11) a t v)) (x.1 12 0 0) (x.1 12 0 1)) := hD
    have hW2 : (wR qm cI cZ n S P (col (x.1 13) 0) (col (x.1 0) 0) (col (x.1 0) 1) (col (x.1 0) 2) (col (x.1 0) 3) (col (x.1 0) 4) (col (x.1 0) 5) (col (x.1 0) 6) (sq 4 (x.1 2)) (sq 4 (x.1 1)) (sq 4 (x.1 6)) (sq 4 (x.1 3)) (sq 4 (x.1 4)) (sq 4 (x.1 7)) (sq 4 (x.1 8)) (sq 4 (x.1 9)) (sq 4 (x.1 10)) (hrm (x.2 0)) (hrm (x.2 1)) (sq 4 (up2 (x.1 11) a t v)) (x.1 12 0 0) (x.1 12 0 1)) = (wM qm cI cZ n S P (sLearn x a t v)) := by unfold sLearn; rw [if_pos c20]; rfl
    rw [hW2] at hP hD
    exact W.vret hx hb hr (fun t9 ht9 hW9 => ⟨⟨(wM qm cI cZ n S P (sLearn x a t v)), rfl, rfl, by rw [ht9]; exact hP, va_K.moved hW9.alike hK, hD⟩, hS.F ht9⟩) hS.2.2 dModel_learn_35
