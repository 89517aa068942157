theorem dArrays_fill_0 : decode cArrays_fill 0 = .ok (.iconst 0, 1) := by decide +kernel
theorem dArrays_fill_1 : decode cArrays_fill 1 = .ok (.istore_n 2, 1) := by decide +kernel
theorem dArrays_fill_2 : decode cArrays_fill 2 = .ok (.aload_n 0, 1) := by decide +kernel
theorem dArrays_fill_3 : decode cArrays_fill 3 = .ok (.arraylength, 1) := by decide +kernel
theorem dArrays_fill_4 : decode cArrays_fill 4 = .ok (.istore_n 3, 1) := by decide +kernel
theorem dArrays_fill_5 : decode cArrays_fill 5 = .ok (.iload_n 2, 1) := by decide +kernel
theorem dArrays_fill_6 : decode cArrays_fill 6 = .ok (.iload_n 3, 1) := by decide +kernel
theorem dArrays_fill_7 : decode cArrays_fill 7 = .ok (.if_icmp .ge 13, 3) := by decide +kernel
theorem dArrays_fill_10 : decode cArrays_fill 10 = .ok (.aload_n 0, 1) := by decide +kernel
theorem dArrays_fill_11 : decode cArrays_fill 11 = .ok (.iload_n 2, 1) := by decide +kernel
theorem dArrays_fill_12 : decode cArrays_fill 12 = .ok (.iload_n 1, 1) := by decide +kernel
theorem dArrays_fill_13 : decode cArrays_fill 13 = .ok (.iastore, 1) := by decide +kernel
theorem dArrays_fill_14 : decode cArrays_fill 14 = .ok (.iinc 2  1, 3) := by decide +kernel
theorem dArrays_fill_17 : decode cArrays_fill 17 = .ok (.goto (-12), 3) := by decide +kernel
theorem dArrays_fill_20 : decode cArrays_fill 20 = .ok (.return_, 1) := by decide +kernel
set_option maxRecDepth 100000 in
set_option maxHeartbeats 4000000 in
theorem c_fill (l : Launch) (D : va_G) (cI cZ : ClassId) (a : Nat) (L : Nat) (f : Nat → Int32) (v : Int32) (hL : L < 1000) : MV l D [(cI, .int), (cZ, .boolean)] yArrays_fill wsArrays_fill ({ frames := 0, cells := 0, slots := 0, locals := 0 }) [.ref a, .int v] (wA a cI L f) (fun w => w = (wA a cI L (fillr f 0 v L))) := by
  intro sz
  refine Met.ofW (cc := cArrays_fill) (maxL := 4) (ret := (Option.none : Option ClassFile.FieldType)) (by decide) rfl ?_
  intro p e s m args below meth c s₁ B hml hv
  obtain ⟨rfl, hsz, hP, hK, hD0, hZ⟩ := hv
  have hx := B.exec
  have hb := B.bytes
  have hr := B.returns
  have hts := atoms_spec (ws := wsArrays_fill) B.pre
  have hown : s.vm.findClass RArrays = some m.cls := findClass_of_methodNamed B.named
  have hlocks := B.notSynchronized
  subst hsz
  have hD := hD0.self (sz := s.heap.size)
  generalize hAe : va_A (wA a cI L f) s.heap.size = A at hD ⊢
  have hA : ∀ q : Nat, s.heap.size ≤ q → A q := fun q h => by rw [← hAe]; exact Or.inr h
  have hS : va_S A s.heap s.heap [] := va_S.rf
  have hP : va_P D vwCl (wA a cI L f) s.heap := hP
  have hl := lv_entry ([.ref a, .int v]) (n := 4) (Nat.le_of_ble_eq_true rfl)
  rw [lg_entry_eq]
  generalize (lg_sl ([.ref a, .int v]) ++ List.replicate (4 - (lg_sl ([.ref a, .int v])).length) Slot.unset).toArray = ls at hl ⊢
  have hl : lv_has ls 4 [(0, .ref a), (1, .int v)] := hl
  refine lv_iconst (v := nI 0) hx hb dArrays_fill_0 (by decide) ?_
  refine lv_istore_n hx hb dArrays_fill_1 rfl hl (by decide) rfl (fun ls hl => ?_)
  have hl : lv_has ls 4 [(2, .int (nI 0)), (0, .ref a), (1, .int v)] := hl
  refine lv_aload_n hx hb dArrays_fill_2 rfl (lv_at hl 1 rfl) ?_
  refine va_alen (v := nI L) hx hb hK hP 0 0 rfl rfl rfl dArrays_fill_3 ?_
  refine lv_istore_n hx hb dArrays_fill_4 rfl hl (by decide) rfl (fun ls hl => ?_)
  have hl : lv_has ls 4 [(3, .int (nI L)), (2, .int (nI 0)), (0, .ref a), (1, .int v)] := hl
  have loop5 : ∀ (d5 i : Nat) (ls : Array Slot) (H : Heap) (locs : List Loc), i + d5 = L → lv_has ls 4 [(2, .int (nI i)), (3, .int (nI L)), (0, .ref a), (1, .int v)] → va_P D vwCl (wA a cI L (fillr f 0 v i)) H → va_D A (wA a cI L (fillr f 0 v i)) → va_S A s.heap H locs → W p l e (headSpec wsArrays_fill { frames := 0, cells := 0, slots := 0, locals := 0 }).room s m [.ref a, .int v].toArray below meth c H locs 0 0 (MQ below (va_Qv (fun w => w = (wA a cI L (fillr f 0 v L))) (QW D [(cI, .int), (cZ, .boolean)] A) A) [.ref a, .int v].toArray s 0 0 A) (F0 m 5 ls []) := by
    intro d5
    induction d5 with
    | zero =>
      intro i ls H locs hid5  hl hP hD hS
      refine lv_iload_n hx hb dArrays_fill_5 rfl (lv_at hl 0 rfl) ?_
      refine lv_iload_n hx hb dArrays_fill_6 rfl (lv_at hl 1 rfl) ?_
      refine lv_icmp_ge (tgt := 20) hx hb dArrays_fill_7 (by decide) (fun _ => ?_) (fun h9 => absurd (nI_le (by omega) (by omega)) h9)
      have hin : L = i := by omega
      subst hin
      exact W.vret hx hb hr (fun t9 ht9 hW9 => ⟨⟨(wA a cI L (fillr f 0 v L)), rfl, rfl, by rw [ht9]; exact hP, va_K.moved hW9.alike hK, hD⟩, hS.F ht9⟩) hS.2.2 dArrays_fill_20
    | succ d5 ih5 =>
      intro i ls H locs hid5  hl hP hD hS
      refine lv_iload_n hx hb dArrays_fill_5 rfl (lv_at hl 0 rfl) ?_
      refine lv_iload_n hx hb dArrays_fill_6 rfl (lv_at hl 1 rfl) ?_
      refine lv_icmp_ge (tgt := 20) hx hb dArrays_fill_7 (by decide) (fun h9 => absurd h9 (nI_ge (by omega) (by omega))) (fun _ => ?_)
      refine lv_aload_n hx hb dArrays_fill_10 rfl (lv_at hl 2 rfl) ?_
      refine lv_iload_n hx hb dArrays_fill_11 rfl (lv_at hl 0 rfl) ?_
      refine lv_iload_n hx hb dArrays_fill_12 rfl (lv_at hl 3 rfl) ?_
      refine ka_st (f' := fillr f 0 v (i + 1)) hx hb hK hP hD hS 0 0 rfl rfl (by omega) (by omega) (by show _ = upd _ (0 + i) v; rw [Nat.zero_add]) dArrays_fill_13 (fun H locs hP hD hS => ?_)
      have hP : va_P D vwCl (wA a cI L (fillr f 0 v (i + 1))) H := hP
      have hD : va_D A (wA a cI L (fillr f 0 v (i + 1))) := hD
      refine lv_iinc (k := 0) (v := nI (i + 1)) hx hb dArrays_fill_14 hl rfl ((nI_succ _).symm) (by decide) rfl (fun ls hl => ?_)
      have hl : lv_has ls 4 [(2, .int (nI (i + 1))), (3, .int (nI L)), (0, .ref a), (1, .int v)] := hl
      refine lv_goto (tgt := 5) hx hb dArrays_fill_17 (by decide) ?_
      exact ih5 (i + 1) ls H locs (by omega) hl hP hD hS
  exact loop5 L 0 ls s.heap [] (by omega) (lv_sub hl [1, 0, 2, 3] rfl) hP hD hS
theorem dPool_init_0 : decode cPool_init 0 = .ok (.aload_n 0, 1) := by decide +kernel
theorem dPool_init_1 : decode cPool_init 1 = .ok (.invokespecial 3, 3) := by decide +kernel
theorem dPool_init_4 : decode cPool_init 4 = .ok (.aload_n 0, 1) := by decide +kernel
theorem dPool_init_5 : decode cPool_init 5 = .ok (.iload_n 1, 1) := by decide +kernel
theorem dPool_init_6 : decode cPool_init 6 = .ok (.putfield 9, 3) := by decide +kernel
theorem dPool_init_9 : decode cPool_init 9 = .ok (.aload_n 0, 1) := by decide +kernel
theorem dPool_init_10 : decode cPool_init 10 = .ok (.iload_n 1, 1) := by decide +kernel
theorem dPool_init_11 : decode cPool_init 11 = .ok (.bipush 7, 2) := by decide +kernel
theorem dPool_init_13 : decode cPool_init 13 = .ok (.imul, 1) := by decide +kernel
theorem dPool_init_14 : decode cPool_init 14 = .ok (.newarray .int, 2) := by decide +kernel
theorem dPool_init_16 : decode cPool_init 16 = .ok (.putfield 15, 3) := by decide +kernel
theorem dPool_init_19 : decode cPool_init 19 = .ok (.aload_n 0, 1) := by decide +kernel
theorem dPool_init_20 : decode cPool_init 20 = .ok (.iconst 0, 1) := by decide +kernel
theorem dPool_init_21 : decode cPool_init 21 = .ok (.putfield 19, 3) := by decide +kernel
theorem dPool_init_24 : decode cPool_init 24 = .ok (.return_, 1) := by decide +kernel
set_option maxRecDepth 100000 in
set_option maxHeartbeats 8000000 in
theorem c_Pool_new (l : Launch) (D : va_G) (cI cZ : ClassId) (h : Nat) (P : Nat) (hP64 : P ≤ 64) : MC l D [(cI, .int), (cZ, .boolean)] yPool_init wsPool_init ({ frames := 1, cells := 1, slots := 448, locals := 12 }) [.ref h, .int (nI P)] [(h, .inr (1, [.int 0, .null, .int 0]))] 1 448 (fun w => ∃ a1 : Nat, w = [(h, .inr (1, [.int (nI P), .ref a1, .int (nI 0)])), (a1, .inl (cI, P * 7, .inl (fun _ => 0)))]) := by
  intro sz
  refine Met.ofW (cc := cPool_init) (maxL := 2) (ret := (Option.none : Option ClassFile.FieldType)) (by decide) rfl ?_
  intro p e s m args below meth c s₁ B hml hv
  obtain ⟨rfl, hsz, hP, hK, hD0, hZ⟩ := hv
  have hx := B.exec
  have hb := B.bytes
  have hr := B.returns
  have hts := atoms_spec (ws := wsPool_init) B.pre
  have hown : s.vm.findClass RPool = some m.cls := findClass_of_methodNamed B.named
  have hlocks := B.notSynchronized
  have hin : meth.name = "<init>" := (name_of_methodNamed B.named B.method).1
  subst hsz
  have hD := hD0.self (sz := s.heap.size)
  generalize hAe : va_A [(h, .inr (1, [.int 0, .null, .int 0]))] s.heap.size = A at hD ⊢
  have hA : ∀ q : Nat, s.heap.size ≤ q → A q := fun q h => by rw [← hAe]; exact Or.inr h
  have hS : va_S A s.heap s.heap [] := va_S.rf
  have hP : va_P D vwCl [(h, .inr (1, [.int 0, .null, .int 0]))] s.heap := hP
  have hl := lv_entry ([.ref h, .int (nI P)]) (n := 2) (Nat.le_of_ble_eq_true rfl)
  rw [lg_entry_eq]
  generalize (lg_sl ([.ref h, .int (nI P)]) ++ List.replicate (2 - (lg_sl ([.ref h, .int (nI P)])).length) Slot.unset).toArray = ls at hl ⊢
  have hl : lv_has ls 2 [(0, .ref h), (1, .int (nI P))] := hl
  refine lv_aload_n hx hb dPool_init_0 rfl (lv_at hl 0 rfl) ?_
  refine W.objInit hx hb hown (hts (.methodLink RPool 3 objectInit) (mc wd25)) (hts (.instanceMethod objectInit) (mc wd15)) (hts (.code objectInit ⟨#[0xb1]⟩ 1 none) (mc wdO)) rfl (by rw [hml]; exact hl.1) rfl dPool_init_1 (Nat.le_of_ble_eq_true rfl) (Nat.le_of_ble_eq_true rfl) ?_
  refine W.eq (g2 := F0 m 4 ls []) rfl ?_
  refine lv_aload_n hx hb dPool_init_4 rfl (lv_at hl 0 rfl) ?_
  refine lv_iload_n hx hb dPool_init_5 rfl (lv_at hl 1 rfl) ?_
  refine va_putF (D := D) (ci := 1) (v := .int (nI P)) (ty := .int) (C := RPool) (T := TPool) (N := 3) hx hb hts (fun w h => mc (uPool_in w h)) tyPool tyPool_ok nmPool hown hK hP hD hS 0 rfl rfl 0 (by decide) (hts _ (mc wd26)) (fun _ h9 => h9) rfl hin rfl (by decide +kernel) rfl rfl (Nat.le_of_ble_eq_true rfl) dPool_init_6 (fun H locs hP hD hS => ?_)
  have hP : va_P D vwCl [(h, .inr (1, [.int (nI P), .null, .int 0]))] H := hP
  have hD : va_D A [(h, .inr (1, [.int (nI P), .null, .int 0]))] := hD
  refine lv_aload_n hx hb dPool_init_9 rfl (lv_at hl 0 rfl) ?_
  refine lv_iload_n hx hb dPool_init_10 rfl (lv_at hl 1 rfl) ?_
  refine lv_bipush (v := nI 7) hx hb dPool_init_11 (by decide) ?_
  refine lv_imul hx hb dPool_init_13 ?_
  refine lv_topi (nm_r (pk_mul _ _) ?_)
  refine ka_newi (N := P * 7) hx hb (hts _ (mc wd36)) hK hP hD hS hA 0 rfl (by omega) (by omega) (show 0 + 1 ≤ 1 by decide) (show 0 + (P * 7) ≤ 448 by omega) dPool_init_14 (fun q14 H hP hD hS => ?_)
  have hP : va_P D vwCl [(h, .inr (1, [.int (nI P), .null, .int 0])), (q14, .inl (cI, P * 7, .inl (fun _ => 0)))] H := hP
  have hD : va_D A [(h, .inr (1, [.int (nI P), .null, .int 0])), (q14, .inl (cI, P * 7, .inl (fun _ => 0)))] := hD
  refine W.widen (k := 1) (n := 448) (by omega) (by omega) ?_
  refine va_putF (D := D) (ci := 1) (v := .ref q14) (ty := (.array .int)) (C := RPool) (T := TPool) (N := 3) hx hb hts (fun w h => mc (uPool_in w h)) tyPool tyPool_ok nmPool hown hK hP hD hS 0 rfl rfl 1 (by decide) (hts _ (mc wd27)) (fun _ h9 => h9) rfl hin rfl (by decide +kernel) rfl rfl (Nat.le_of_ble_eq_true rfl) dPool_init_16 (fun H locs hP hD hS => ?_)
  have hP : va_P D vwCl [(h, .inr (1, [.int (nI P), .ref q14, .int 0])), (q14, .inl (cI, P * 7, .inl (fun _ => 0)))] H := hP
  have hD : va_D A [(h, .inr (1, [.int (nI P), .ref q14, .int 0])), (q14, .inl (cI, P * 7, .inl (fun _ => 0)))] := hD
  refine lv_aload_n hx hb dPool_init_19 rfl (lv_at hl 0 rfl) ?_
  refine lv_iconst (v := nI 0) hx hb dPool_init_20 (by decide) ?_
  refine va_put (D := D) (ci := 1) (v := .int (nI 0)) (ty := .int) (C := RPool) (T := TPool) (N := 3) hx hb hts (fun w h => mc (uPool_in w h)) tyPool tyPool_ok nmPool hown hK hP hD hS 0 rfl rfl 2 (by decide) (hts _ (mc wd28)) (fun _ h9 => h9) rfl (by decide +kernel) rfl rfl (Nat.le_of_ble_eq_true rfl) dPool_init_21 (fun H locs hP hD hS => ?_)
  have hP : va_P D vwCl [(h, .inr (1, [.int (nI P), .ref q14, .int (nI 0)])), (q14, .inl (cI, P * 7, .inl (fun _ => 0)))] H := hP
  have hD : va_D A [(h, .inr (1, [.int (nI P), .ref q14, .int (nI 0)])), (q14, .inl (cI, P * 7, .inl (fun _ => 0)))] := hD
  refine W.widen (k := 1) (n := 448) (by decide) (by decide) ?_
  exact W.vret hx hb hr (fun t9 ht9 hW9 => ⟨⟨[(h, .inr (1, [.int (nI P), .ref q14, .int (nI 0)])), (q14, .inl (cI, P * 7, .inl (fun _ => 0)))], rfl, ⟨q14, rfl⟩, by rw [ht9]; exact hP, va_K.moved hW9.alike hK, hD⟩, hS.F ht9⟩) hS.2.2 dPool_init_24
theorem dProposers_init_0 : decode cProposers_init 0 = .ok (.aload_n 0, 1) := by decide +kernel
theorem dProposers_init_1 : decode cProposers_init 1 = .ok (.invokespecial 3, 3) := by decide +kernel
theorem dProposers_init_4 : decode cProposers_init 4 = .ok (.iload_n 1, 1) := by decide +kernel
theorem dProposers_init_5 : decode cProposers_init 5 = .ok (.iload_n 2, 1) := by decide +kernel
theorem dProposers_init_6 : decode cProposers_init 6 = .ok (.imul, 1) := by decide +kernel
theorem dProposers_init_7 : decode cProposers_init 7 = .ok (.istore_n 3, 1) := by decide +kernel
theorem dProposers_init_8 : decode cProposers_init 8 = .ok (.aload_n 0, 1) := by decide +kernel
theorem dProposers_init_9 : decode cProposers_init 9 = .ok (.iload_n 1, 1) := by decide +kernel
theorem dProposers_init_10 : decode cProposers_init 10 = .ok (.putfield 9, 3) := by decide +kernel
theorem dProposers_init_13 : decode cProposers_init 13 = .ok (.aload_n 0, 1) := by decide +kernel
theorem dProposers_init_14 : decode cProposers_init 14 = .ok (.iload_n 3, 1) := by decide +kernel
theorem dProposers_init_15 : decode cProposers_init 15 = .ok (.newarray .int, 2) := by decide +kernel
theorem dProposers_init_17 : decode cProposers_init 17 = .ok (.putfield 15, 3) := by decide +kernel
theorem dProposers_init_20 : decode cProposers_init 20 = .ok (.aload_n 0, 1) := by decide +kernel
theorem dProposers_init_21 : decode cProposers_init 21 = .ok (.iload_n 3, 1) := by decide +kernel
theorem dProposers_init_22 : decode cProposers_init 22 = .ok (.newarray .int, 2) := by decide +kernel
theorem dProposers_init_24 : decode cProposers_init 24 = .ok (.putfield 19, 3) := by decide +kernel
theorem dProposers_init_27 : decode cProposers_init 27 = .ok (.aload_n 0, 1) := by decide +kernel
theorem dProposers_init_28 : decode cProposers_init 28 = .ok (.iload_n 3, 1) := by decide +kernel
theorem dProposers_init_29 : decode cProposers_init 29 = .ok (.newarray .int, 2) := by decide +kernel
theorem dProposers_init_31 : decode cProposers_init 31 = .ok (.putfield 22, 3) := by decide +kernel
theorem dProposers_init_34 : decode cProposers_init 34 = .ok (.aload_n 0, 1) := by decide +kernel
theorem dProposers_init_35 : decode cProposers_init 35 = .ok (.iload_n 3, 1) := by decide +kernel
theorem dProposers_init_36 : decode cProposers_init 36 = .ok (.newarray .int, 2) := by decide +kernel
theorem dProposers_init_38 : decode cProposers_init 38 = .ok (.putfield 25, 3) := by decide +kernel
theorem dProposers_init_41 : decode cProposers_init 41 = .ok (.aload_n 0, 1) := by decide +kernel
theorem dProposers_init_42 : decode cProposers_init 42 = .ok (.iload_n 3, 1) := by decide +kernel
theorem dProposers_init_43 : decode cProposers_init 43 = .ok (.newarray .int, 2) := by decide +kernel
theorem dProposers_init_45 : decode cProposers_init 45 = .ok (.putfield 28, 3) := by decide +kernel
theorem dProposers_init_48 : decode cProposers_init 48 = .ok (.aload_n 0, 1) := by decide +kernel
theorem dProposers_init_49 : decode cProposers_init 49 = .ok (.getfield 19, 3) := by decide +kernel
theorem dProposers_init_52 : decode cProposers_init 52 = .ok (.iconst (-1), 1) := by decide +kernel
theorem dProposers_init_53 : decode cProposers_init 53 = .ok (.invokestatic 31, 3) := by decide +kernel
theorem dProposers_init_56 : decode cProposers_init 56 = .ok (.aload_n 0, 1) := by decide +kernel
theorem dProposers_init_57 : decode cProposers_init 57 = .ok (.getfield 25, 3) := by decide +kernel
theorem dProposers_init_60 : decode cProposers_init 60 = .ok (.iconst (-1), 1) := by decide +kernel
theorem dProposers_init_61 : decode cProposers_init 61 = .ok (.invokestatic 31, 3) := by decide +kernel
theorem dProposers_init_64 : decode cProposers_init 64 = .ok (.return_, 1) := by decide +kernel
set_option maxRecDepth 100000 in
set_option maxHeartbeats 8000000 in
theorem c_Proposers_new (l : Launch) (D : va_G) (cI cZ : ClassId) (h : Nat) (n : Nat) (S : Nat) (hn5 : n ≤ 5) (hS4 : S ≤ 4) : MC l D [(cI, .int), (cZ, .boolean)] yProposers_init wsProposers_init ({ frames := 1, cells := 5, slots := 100, locals := 23 }) [.ref h, .int (nI n), .int (nI S)] [(h, .inr (2, [.int 0, .null, .null, .null, .null, .null]))] 5 100 (fun w => ∃ a1 : Nat, ∃ a2 : Nat, ∃ a3 : Nat, ∃ a4 : Nat, ∃ a5 : Nat, w = [(h, .inr (2, [.int (nI n), .ref a1, .ref a2, .ref a3, .ref a4, .ref a5])), (a1, .inl (cI, n * S, .inl (fun _ => 0))), (a2, .inl (cI, n * S, .inl (fun _ => (-1)))), (a3, .inl (cI, n * S, .inl (fun _ => 0))), (a4, .inl (cI, n * S, .inl (fun _ => (-1)))), (a5, .inl (cI, n * S, .inl (fun _ => 0)))]) := by
  intro sz
  refine Met.ofW (cc := cProposers_init) (maxL := 4) (ret := (Option.none : Option ClassFile.FieldType)) (by decide) rfl ?_
  intro p e s m args below meth c s₁ B hml hv
  obtain ⟨rfl, hsz, hP, hK, hD0, hZ⟩ := hv
  have hx := B.exec
  have hb := B.bytes
  have hr := B.returns
  have hts := atoms_spec (ws := wsProposers_init) B.pre
  have hown : s.vm.findClass RProposers = some m.cls := findClass_of_methodNamed B.named
  have hlocks := B.notSynchronized
  have hin : meth.name = "<init>" := (name_of_methodNamed B.named B.method).1
  subst hsz
  have hD := hD0.self (sz := s.heap.size)
  generalize hAe : va_A [(h, .inr (2, [.int 0, .null, .null, .null, .null, .null]))] s.heap.size = A at hD ⊢
  have hA : ∀ q : Nat, s.heap.size ≤ q → A q := fun q h => by rw [← hAe]; exact Or.inr h
  have hS : va_S A s.heap s.heap [] := va_S.rf
  have hP : va_P D vwCl [(h, .inr (2, [.int 0, .null, .null, .null, .null, .null]))] s.heap := hP
  have hl := lv_entry ([.ref h, .int (nI n), .int (nI S)]) (n := 4) (Nat.le_of_ble_eq_true rfl)
  rw [lg_entry_eq]
  generalize (lg_sl ([.ref h, .int (nI n), .int (nI S)]) ++ List.replicate (4 - (lg_sl ([.ref h, .int (nI n), .int (nI S)])).length) Slot.unset).toArray = ls at hl ⊢
  have hl : lv_has ls 4 [(0, .ref h), (1, .int (nI n)), (2, .int (nI S))] := hl
  refine lv_aload_n hx hb dProposers_init_0 rfl (lv_at hl 0 rfl) ?_
  refine W.objInit hx hb hown (hts (.methodLink RProposers 3 objectInit) (mc wd42)) (hts (.instanceMethod objectInit) (mc wd15)) (hts (.code objectInit ⟨#[0xb1]⟩ 1 none) (mc wdO)) rfl (by rw [hml]; exact hl.1) rfl dProposers_init_1 (Nat.le_of_ble_eq_true rfl) (Nat.le_of_ble_eq_true rfl) ?_
  refine W.eq (g2 := F0 m 4 ls []) rfl ?_
  refine lv_iload_n hx hb dProposers_init_4 rfl (lv_at hl 1 rfl) ?_
  refine lv_iload_n hx hb dProposers_init_5 rfl (lv_at hl 2 rfl) ?_
  refine lv_imul hx hb dProposers_init_6 ?_
  refine lv_topi (nm_r (pk_mul _ _) ?_)
  refine lv_istore_n hx hb dProposers_init_7 rfl hl (by decide) rfl (fun ls hl => ?_)
  have hl : lv_has ls 4 [(3, .int (nI (n * S))), (0, .ref h), (1, .int (nI n)), (2, .int (nI S))] := hl
  refine lv_aload_n hx hb dProposers_init_8 rfl (lv_at hl 1 rfl) ?_
  refine lv_iload_n hx hb dProposers_init_9 rfl (lv_at hl 2 rfl) ?_
  refine va_putF (D := D) (ci := 2) (v := .int (nI n)) (ty := .int) (C := RProposers) (T := TProposers) (N := 6) hx hb hts (fun w h => mc (uProposers_in w h)) tyProposers tyProposers_ok nmProposers hown hK hP hD hS 0 rfl rfl 0 (by decide) (hts _ (mc wd46)) (fun _ h9 => h9) rfl hin rfl (by decide +kernel) rfl rfl (Nat.le_of_ble_eq_true rfl) dProposers_init_10 (fun H locs hP hD hS => ?_)
  have hP : va_P D vwCl [(h, .inr (2, [.int (nI n), .null, .null, .null, .null, .null]))] H := hP
  have hD : va_D A [(h, .inr (2, [.int (nI n), .null, .null, .null, .null, .null]))] := hD
  refine lv_aload_n hx hb dProposers_init_13 rfl (lv_at hl 1 rfl) ?_
  refine lv_iload_n hx hb dProposers_init_14 rfl (lv_at hl 0 rfl) ?_
  refine ka_newi (N := n * S) hx hb (hts _ (mc wd36)) hK hP hD hS hA 0 rfl (by have h7 := L20 hn5 hS4; omega) (by have h7 := L20 hn5 hS4; omega) (show 0 + 1 ≤ 5 by decide) (show 0 + (n * S) ≤ 100 by (have h7 := L20 hn5 hS4; omega)) dProposers_init_15 (fun q15 H hP hD hS => ?_)
  have hP : va_P D vwCl [(h, .inr (2, [.int (nI n), .null, .null, .null, .null, .null])), (q15, .inl (cI, n * S, .inl (fun _ => 0)))] H := hP
  have hD : va_D A [(h, .inr (2, [.int (nI n), .null, .null, .null, .null, .null])), (q15, .inl (cI, n * S, .inl (fun _ => 0)))] := hD
  refine W.widen (k := 1) (n := 20) (by omega) (by (have h7 := L20 hn5 hS4; omega)) ?_
  refine va_putF (D := D) (ci := 2) (v := .ref q15) (ty := (.array .int)) (C := RProposers) (T := TProposers) (N := 6) hx hb hts (fun w h => mc (uProposers_in w h)) tyProposers tyProposers_ok nmProposers hown hK hP hD hS 0 rfl rfl 1 (by decide) (hts _ (mc wd47)) (fun _ h9 => h9) rfl hin rfl (by decide +kernel) rfl rfl (Nat.le_of_ble_eq_true rfl) dProposers_init_17 (fun H locs hP hD hS => ?_)
  have hP : va_P D vwCl [(h, .inr (2, [.int (nI n), .ref q15, .null, .null, .null, .null])), (q15, .inl (cI, n * S, .inl (fun _ => 0)))] H := hP
  have hD : va_D A [(h, .inr (2, [.int (nI n), .ref q15, .null, .null, .null, .null])), (q15, .inl (cI, n * S, .inl (fun _ => 0)))] := hD
  refine lv_aload_n hx hb dProposers_init_20 rfl (lv_at hl 1 rfl) ?_
  refine lv_iload_n hx hb dProposers_init_21 rfl (lv_at hl 0 rfl) ?_
  refine ka_newi (N := n * S) hx hb (hts _ (mc wd36)) hK hP hD hS hA 0 rfl (by have h7 := L20 hn5 hS4; omega) (by have h7 := L20 hn5 hS4; omega) (show 1 + 1 ≤ 5 by decide) (show 20 + (n * S) ≤ 100 by (have h7 := L20 hn5 hS4; omega)) dProposers_init_22 (fun q22 H hP hD hS => ?_)
  have hP : va_P D vwCl [(h, .inr (2, [.int (nI n), .ref q15, .null, .null, .null, .null])), (q15, .inl (cI, n * S, .inl (fun _ => 0))), (q22, .inl (cI, n * S, .inl (fun _ => 0)))] H := hP
  have hD : va_D A [(h, .inr (2, [.int (nI n), .ref q15, .null, .null, .null, .null])), (q15, .inl (cI, n * S, .inl (fun _ => 0))), (q22, .inl (cI, n * S, .inl (fun _ => 0)))] := hD
  refine W.widen (k := 2) (n := 40) (by omega) (by (have h7 := L20 hn5 hS4; omega)) ?_
  refine va_putF (D := D) (ci := 2) (v := .ref q22) (ty := (.array .int)) (C := RProposers) (T := TProposers) (N := 6) hx hb hts (fun w h => mc (uProposers_in w h)) tyProposers tyProposers_ok nmProposers hown hK hP hD hS 0 rfl rfl 2 (by decide) (hts _ (mc wd48)) (fun _ h9 => h9) rfl hin rfl (by decide +kernel) rfl rfl (Nat.le_of_ble_eq_true rfl) dProposers_init_24 (fun H locs hP hD hS => ?_)
  have hP : va_P D vwCl [(h, .inr (2, [.int (nI n), .ref q15, .ref q22, .null, .null, .null])), (q15, .inl (cI, n * S, .inl (fun _ => 0))), (q22, .inl (cI, n * S, .inl (fun _ => 0)))] H := hP
  have hD : va_D A [(h, .inr (2, [.int (nI n), .ref q15, .ref q22, .null, .null, .null])), (q15, .inl (cI, n * S, .inl (fun _ => 0))), (q22, .inl (cI, n * S, .inl (fun _ => 0)))] := hD
  refine lv_aload_n hx hb dProposers_init_27 rfl (lv_at hl 1 rfl) ?_
  refine lv_iload_n hx hb dProposers_init_28 rfl (lv_at hl 0 rfl) ?_
  refine ka_newi (N := n * S) hx hb (hts _ (mc wd36)) hK hP hD hS hA 0 rfl (by have h7 := L20 hn5 hS4; omega) (by have h7 := L20 hn5 hS4; omega) (show 2 + 1 ≤ 5 by decide) (show 40 + (n * S) ≤ 100 by (have h7 := L20 hn5 hS4; omega)) dProposers_init_29 (fun q29 H hP hD hS => ?_)
  have hP : va_P D vwCl [(h, .inr (2, [.int (nI n), .ref q15, .ref q22, .null, .null, .null])), (q15, .inl (cI, n * S, .inl (fun _ => 0))), (q22, .inl (cI, n * S, .inl (fun _ => 0))), (q29, .inl (cI, n * S, .inl (fun _ => 0)))] H := hP
  have hD : va_D A [(h, .inr (2, [.int (nI n), .ref q15, .ref q22, .null, .null, .null])), (q15, .inl (cI, n * S, .inl (fun _ => 0))), (q22, .inl (cI, n * S, .inl (fun _ => 0))), (q29, .inl (cI, n * S, .inl (fun _ => 0)))] := hD
  refine W.widen (k := 3) (n := 60) (by omega) (by (have h7 := L20 hn5 hS4; omega)) ?_
  refine va_putF (D := D) (ci := 2) (v := .ref q29) (ty := (.array .int)) (C := RProposers) (T := TProposers) (N := 6) hx hb hts (fun w h => mc (uProposers_in w h)) tyProposers tyProposers_ok nmProposers hown hK hP hD hS 0 rfl rfl 3 (by decide) (hts _ (mc wd49)) (fun _ h9 => h9) rfl hin rfl (by decide +kernel) rfl rfl (Nat.le_of_ble_eq_true rfl) dProposers_init_31 (fun H locs hP hD hS => ?_)
  have hP : va_P D vwCl [(h, .inr (2, [.int (nI n), .ref q15, .ref q22, .ref q29, .null, .null])), (q15, .inl (cI, n * S, .inl (fun _ => 0))), (q22, .inl (cI, n * S, .inl (fun _ => 0))), (q29, .inl (cI, n * S, .inl (fun _ => 0)))] H := hP
  have hD : va_D A [(h, .inr (2, [.int (nI n), .ref q15, .ref q22, .ref q29, .null, .null])), (q15, .inl (cI, n * S, .inl (fun _ => 0))), (q22, .inl (cI, n * S, .inl (fun _ => 0))), (q29, .inl (cI, n * S, .inl (fun _ => 0)))] := hD
  refine lv_aload_n hx hb dProposers_init_34 rfl (lv_at hl 1 rfl) ?_
  refine lv_iload_n hx hb dProposers_init_35 rfl (lv_at hl 0 rfl) ?_
  refine ka_newi (N := n * S) hx hb (hts _ (mc wd36)) hK hP hD hS hA 0 rfl (by have h7 := L20 hn5 hS4; omega) (by have h7 := L20 hn5 hS4; omega) (show 3 + 1 ≤ 5 by decide) (show 60 + (n * S) ≤ 100 by (have h7 := L20 hn5 hS4; omega)) dProposers_init_36 (fun q36 H hP hD hS => ?_)
  have hP : va_P D vwCl [(h, .inr (2, [.int (nI n), .ref q15, .ref q22, .ref q29, .null, .null])), (q15, .inl (cI, n * S, .inl (fun _ => 0))), (q22, .inl (cI, n * S, .inl (fun _ => 0))), (q29, .inl (cI, n * S, .inl (fun _ => 0))), (q36, .inl (cI, n * S, .inl (fun _ => 0)))] H := hP
  have hD : va_D A [(h, .inr (2, [.int (nI n), .ref q15, .ref q22, .ref q29, .null, .null])), (q15, .inl (cI, n * S, .inl (fun _ => 0))), (q22, .inl (cI, n * S, .inl (fun _ => 0))), (q29, .inl (cI, n * S, .inl (fun _ => 0))), (q36, .inl (cI, n * S, .inl (fun _ => 0)))] := hD
  refine W.widen (k := 4) (n := 80) (by omega) (by (have h7 := L20 hn5 hS4; omega)) ?_
  refine va_putF (D := D) (ci := 2) (v := .ref q36) (ty := (.array .int)) (C := RProposers) (T := TProposers) (N := 6) hx hb hts (fun w h => mc (uProposers_in w h)) tyProposers tyProposers_ok nmProposers hown hK hP hD hS 0 rfl rfl 4 (by decide) (hts _ (mc wd50)) (fun _ h9 => h9) rfl hin rfl (by decide +kernel) rfl rfl (Nat.le_of_ble_eq_true rfl) dProposers_init_38 (fun H locs hP hD hS => ?_)
  have hP : va_P D vwCl [(h, .inr (2, [.int (nI n), .ref q15, .ref q22, .ref q29, .ref q36, .null])), (q15, .inl (cI, n * S, .inl (fun _ => 0))), (q22, .inl (cI, n * S, .inl (fun _ => 0))), (q29, .inl (cI, n * S, .inl (fun _ => 0))), (q36, .inl (cI, n * S, .inl (fun _ => 0)))] H := hP
  have hD : va_D A [(h, .inr (2, [.int (nI n), .ref q15, .ref q22, .ref q29, .ref q36, .null])), (q15, .inl (cI, n * S, .inl (fun _ => 0))), (q22, .inl (cI, n * S, .inl (fun _ => 0))), (q29, .inl (cI, n * S, .inl (fun _ => 0))), (q36, .inl (cI, n * S, .inl (fun _ => 0)))] := hD
  refine lv_aload_n hx hb dProposers_init_41 rfl (lv_at hl 1 rfl) ?_
  refine lv_iload_n hx hb dProposers_init_42 rfl (lv_at hl 0 rfl) ?_
  refine ka_newi (N := n * S) hx hb (hts _ (mc wd36)) hK hP hD hS hA 0 rfl (by have h7 := L20 hn5 hS4; omega) (by have h7 := L20 hn5 hS4; omega) (show 4 + 1 ≤ 5 by decide) (show 80 + (n * S) ≤ 100 by (have h7 := L20 hn5 hS4; omega)) dProposers_init_43 (fun q43 H hP hD hS => ?_)
  have hP : va_P D vwCl [(h, .inr (2, [.int (nI n), .ref q15, .ref q22, .ref q29, .ref q36, .null])), (q15, .inl (cI, n * S, .inl (fun _ => 0))), (q22, .inl (cI, n * S, .inl (fun _ => 0))), (q29, .inl (cI, n * S, .inl (fun _ => 0))), (q36, .inl (cI, n * S, .inl (fun _ => 0))), (q43, .inl (cI, n * S, .inl (fun _ => 0)))] H := hP
  have hD : va_D A [(h, .inr (2, [.int (nI n), .ref q15, .ref q22, .ref q29, .ref q36, .null])), (q15, .inl (cI, n * S, .inl (fun _ => 0))), (q22, .inl (cI, n * S, .inl (fun _ => 0))), (q29, .inl (cI, n * S, .inl (fun _ => 0))), (q36, .inl (cI, n * S, .inl (fun _ => 0))), (q43, .inl (cI, n * S, .inl (fun _ => 0)))] := hD
  refine W.widen (k := 5) (n := 100) (by omega) (by (have h7 := L20 hn5 hS4; omega)) ?_
  refine va_putF (D := D) (ci := 2) (v := .ref q43) (ty := (.array .int)) (C := RProposers) (T := TProposers) (N := 6) hx hb hts (fun w h => mc (uProposers_in w h)) tyProposers tyProposers_ok nmProposers hown hK hP hD hS 0 rfl rfl 5 (by decide) (hts _ (mc wd51)) (fun _ h9 => h9) rfl hin rfl (by decide +kernel) rfl rfl (Nat.le_of_ble_eq_true rfl) dProposers_init_45 (fun H locs hP hD hS => ?_)
  have hP : va_P D vwCl [(h, .inr (2, [.int (nI n), .ref q15, .ref q22, .ref q29, .ref q36, .ref q43])), (q15, .inl (cI, n * S, .inl (fun _ => 0))), (q22, .inl (cI, n * S, .inl (fun _ => 0))), (q29, .inl (cI, n * S, .inl (fun _ => 0))), (q36, .inl (cI, n * S, .inl (fun _ => 0))), (q43, .inl (cI, n * S, .inl (fun _ => 0)))] H := hP
  have hD : va_D A [(h, .inr (2, [.int (nI n), .ref q15, .ref q22, .ref q29, .ref q36, .ref q43])), (q15, .inl (cI, n * S, .inl (fun _ => 0))), (q22, .inl (cI, n * S, .inl (fun _ => 0))), (q29, .inl (cI, n * S, .inl (fun _ => 0))), (q36, .inl (cI, n * S, .inl (fun _ => 0))), (q43, .inl (cI, n * S, .inl (fun _ => 0)))] := hD
  refine lv_aload_n hx hb dProposers_init_48 rfl (lv_at hl 1 rfl) ?_
  refine va_get (D := D) (ci := 2) (v := .ref q22) (C := RProposers) (T := TProposers) (N := 6) hx hb hts (fun w h => mc (uProposers_in w h)) hown hK hP 0 rfl rfl 2 (by decide) (hts _ (mc wd48)) (fun _ h9 => h9) rfl dProposers_init_49 ?_
  refine lv_iconst (v := (-1)) hx hb dProposers_init_52 (by decide) ?_
  have hPc := hP.sub (ws' := (wA q22 cI (n * S) (fun _ => 0))) [2] rfl
  have hDc := hD.sub (ws' := (wA q22 cI (n * S) (fun _ => 0))) [2] (by decide) rfl
  refine kx_v (va_runS (As := [.ref q22, .int (-1)]) (rest := []) ⟨hx, hb, hml, hown, hts⟩ ((c_fill l D cI cZ q22 (n * S) (fun _ => 0) (-1) (by have h7 := L20 hn5 hS4; omega)) H.size) (va_cwS 2 hts (gS wd43 wd44 wd4 wd45) rfl rfl rfl (by decide +kernel) ⟨Nat.le_of_ble_eq_true rfl, Nat.le_of_ble_eq_true rfl⟩) ⟨fb_PW, pre_PW hK hPc hDc hZ⟩ rfl rfl hl.1 rfl (lv_room (Nat.le_of_ble_eq_true rfl)) dProposers_init_53 ⟨Nat.le_of_ble_eq_true rfl, Nat.le_of_ble_eq_true rfl⟩) hP hD hS hA [2] [0, 1, 3, 4, 5] rfl rfl (by decide) (by decide) (fun w1 H locs hw hP hD hS => ?_)
  obtain rfl := hw
  have hP : va_P D vwCl [(h, .inr (2, [.int (nI n), .ref q15, .ref q22, .ref q29, .ref q36, .ref q43])), (q15, .inl (cI, n * S, .inl (fun _ => 0))), (q22, .inl (cI, n * S, .inl (fillr (fun _ => 0) 0 ((-1)) (n * S)))), (q29, .inl (cI, n * S, .inl (fun _ => 0))), (q36, .inl (cI, n * S, .inl (fun _ => 0))), (q43, .inl (cI, n * S, .inl (fun _ => 0)))] H := hP.sub [0, 1, 5, 2, 3, 4] rfl
  have hD : va_D A [(h, .inr (2, [.int (nI n), .ref q15, .ref q22, .ref q29, .ref q36, .ref q43])), (q15, .inl (cI, n * S, .inl (fun _ => 0))), (q22, .inl (cI, n * S, .inl (fillr (fun _ => 0) 0 ((-1)) (n * S)))), (q29, .inl (cI, n * S, .inl (fun _ => 0))), (q36, .inl (cI, n * S, .inl (fun _ => 0))), (q43, .inl (cI, n * S, .inl (fun _ => 0)))] := hD.sub [0, 1, 5, 2, 3, 4] (by decide) rfl
  have hP := va_P_ext (f' := fun _ => (-1)) 2 hP rfl (fun i hi => by rw [fillr_at, if_pos (by omega)])
  have hD := va_D_ext (e' := .inl (cI, n * S, .inl (fun _ => (-1)))) 2 hD rfl
  have hP : va_P D vwCl [(h, .inr (2, [.int (nI n), .ref q15, .ref q22, .ref q29, .ref q36, .ref q43])), (q15, .inl (cI, n * S, .inl (fun _ => 0))), (q22, .inl (cI, n * S, .inl (fun _ => (-1)))), (q29, .inl (cI, n * S, .inl (fun _ => 0))), (q36, .inl (cI, n * S, .inl (fun _ => 0))), (q43, .inl (cI, n * S, .inl (fun _ => 0)))] H := hP
  have hD : va_D A [(h, .inr (2, [.int (nI n), .ref q15, .ref q22, .ref q29, .ref q36, .ref q43])), (q15, .inl (cI, n * S, .inl (fun _ => 0))), (q22, .inl (cI, n * S, .inl (fun _ => (-1)))), (q29, .inl (cI, n * S, .inl (fun _ => 0))), (q36, .inl (cI, n * S, .inl (fun _ => 0))), (q43, .inl (cI, n * S, .inl (fun _ => 0)))] := hD
  refine lv_aload_n hx hb dProposers_init_56 rfl (lv_at hl 1 rfl) ?_
  refine va_get (D := D) (ci := 2) (v := .ref q36) (C := RProposers) (T := TProposers) (N := 6) hx hb hts (fun w h => mc (uProposers_in w h)) hown hK hP 0 rfl rfl 4 (by decide) (hts _ (mc wd50)) (fun _ h9 => h9) rfl dProposers_init_57 ?_
  refine lv_iconst (v := (-1)) hx hb dProposers_init_60 (by decide) ?_
  have hPc := hP.sub (ws' := (wA q36 cI (n * S) (fun _ => 0))) [4] rfl
  have hDc := hD.sub (ws' := (wA q36 cI (n * S) (fun _ => 0))) [4] (by decide) rfl
  refine kx_v (va_runS (As := [.ref q36, .int (-1)]) (rest := []) ⟨hx, hb, hml, hown, hts⟩ ((c_fill l D cI cZ q36 (n * S) (fun _ => 0) (-1) (by have h7 := L20 hn5 hS4; omega)) H.size) (va_cwS 2 hts (gS wd43 wd44 wd4 wd45) rfl rfl rfl (by decide +kernel) ⟨Nat.le_of_ble_eq_true rfl, Nat.le_of_ble_eq_true rfl⟩) ⟨fb_PW, pre_PW hK hPc hDc hZ⟩ rfl rfl hl.1 rfl (lv_room (Nat.le_of_ble_eq_true rfl)) dProposers_init_61 ⟨Nat.le_of_ble_eq_true rfl, Nat.le_of_ble_eq_true rfl⟩) hP hD hS hA [4] [0, 1, 2, 3, 5] rfl rfl (by decide) (by decide) (fun w1 H locs hw hP hD hS => ?_)
  obtain rfl := hw
  have hP : va_P D vwCl [(h, .inr (2, [.int (nI n), .ref q15, .ref q22, .ref q29, .ref q36, .ref q43])), (q15, .inl (cI, n * S, .inl (fun _ => 0))), (q22, .inl (cI, n * S, .inl (fun _ => (-1)))), (q29, .inl (cI, n * S, .inl (fun _ => 0))), (q36, .inl (cI, n * S, .inl (fillr (fun _ => 0) 0 ((-1)) (n * S)))), (q43, .inl (cI, n * S, .inl (fun _ => 0)))] H := hP.sub [0, 1, 2, 3, 5, 4] rfl
  have hD : va_D A [(h, .inr (2, [.int (nI n), .ref q15, .ref q22, .ref q29, .ref q36, .ref q43])), (q15, .inl (cI, n * S, .inl (fun _ => 0))), (q22, .inl (cI, n * S, .inl (fun _ => (-1)))), (q29, .inl (cI, n * S, .inl (fun _ => 0))), (q36, .inl (cI, n * S, .inl (fillr (fun _ => 0) 0 ((-1)) (n * S)))), (q43, .inl (cI, n * S, .inl (fun _ => 0)))] := hD.sub [0, 1, 2, 3, 5, 4] (by decide) rfl
  have hP := va_P_ext (f' := fun _ => (-1)) 4 hP rfl (fun i hi => by rw [fillr_at, if_pos (by omega)])
  have hD := va_D_ext (e' := .inl (cI, n * S, .inl (fun _ => (-1)))) 4 hD rfl
  have hP : va_P D vwCl [(h, .inr (2, [.int (nI n), .ref q15, .ref q22, .ref q29, .ref q36, .ref q43])), (q15, .inl (cI, n * S, .inl (fun _ => 0))), (q22, .inl (cI, n * S, .inl (fun _ => (-1)))), (q29, .inl (cI, n * S, .inl (fun _ => 0))), (q36, .inl (cI, n * S, .inl (fun _ => (-1)))), (q43, .inl (cI, n * S, .inl (fun _ => 0)))] H := hP
  have hD : va_D A [(h, .inr (2, [.int (nI n), .ref q15, .ref q22, .ref q29, .ref q36, .ref q43])), (q15, .inl (cI, n * S, .inl (fun _ => 0))), (q22, .inl (cI, n * S, .inl (fun _ => (-1)))), (q29, .inl (cI, n * S, .inl (fun _ => 0))), (q36, .inl (cI, n * S, .inl (fun _ => (-1)))), (q43, .inl (cI, n * S, .inl (fun _ => 0)))] := hD
  refine W.widen (k := 5) (n := 100) (by decide) (by decide) ?_
  exact W.vret hx hb hr (fun t9 ht9 hW9 => ⟨⟨[(h, .inr (2, [.int (nI n), .ref q15, .ref q22, .ref q29, .ref q36, .ref q43])), (q15, .inl (cI, n * S, .inl (fun _ => 0))), (q22, .inl (cI, n * S, .inl (fun _ => (-1)))), (q29, .inl (cI, n * S, .inl (fun _ => 0))), (q36, .inl (cI, n * S, .inl (fun _ => (-1)))), (q43, .inl (cI, n * S, .inl (fun _ => 0)))], rfl, ⟨q15, q22, q29, q36, q43, rfl⟩, by rw [ht9]; exact hP, va_K.moved hW9.alike hK, hD⟩, hS.F ht9⟩) hS.2.2 dProposers_init_64
theorem dAcceptors_init_0 : decode cAcceptors_init 0 = .ok (.aload_n 0, 1) := by decide +kernel
theorem dAcceptors_init_1 : decode cAcceptors_init 1 = .ok (.invokespecial 3, 3) := by decide +kernel
theorem dAcceptors_init_4 : decode cAcceptors_init 4 = .ok (.iload_n 1, 1) := by decide +kernel
theorem dAcceptors_init_5 : decode cAcceptors_init 5 = .ok (.iload_n 2, 1) := by decide +kernel
theorem dAcceptors_init_6 : decode cAcceptors_init 6 = .ok (.imul, 1) := by decide +kernel
theorem dAcceptors_init_7 : decode cAcceptors_init 7 = .ok (.istore_n 3, 1) := by decide +kernel
theorem dAcceptors_init_8 : decode cAcceptors_init 8 = .ok (.aload_n 0, 1) := by decide +kernel
theorem dAcceptors_init_9 : decode cAcceptors_init 9 = .ok (.iload_n 1, 1) := by decide +kernel
theorem dAcceptors_init_10 : decode cAcceptors_init 10 = .ok (.putfield 9, 3) := by decide +kernel
theorem dAcceptors_init_13 : decode cAcceptors_init 13 = .ok (.aload_n 0, 1) := by decide +kernel
theorem dAcceptors_init_14 : decode cAcceptors_init 14 = .ok (.iload_n 2, 1) := by decide +kernel
theorem dAcceptors_init_15 : decode cAcceptors_init 15 = .ok (.putfield 15, 3) := by decide +kernel
theorem dAcceptors_init_18 : decode cAcceptors_init 18 = .ok (.aload_n 0, 1) := by decide +kernel
theorem dAcceptors_init_19 : decode cAcceptors_init 19 = .ok (.iload_n 3, 1) := by decide +kernel
theorem dAcceptors_init_20 : decode cAcceptors_init 20 = .ok (.newarray .int, 2) := by decide +kernel
theorem dAcceptors_init_22 : decode cAcceptors_init 22 = .ok (.putfield 18, 3) := by decide +kernel
theorem dAcceptors_init_25 : decode cAcceptors_init 25 = .ok (.aload_n 0, 1) := by decide +kernel
theorem dAcceptors_init_26 : decode cAcceptors_init 26 = .ok (.iload_n 3, 1) := by decide +kernel
theorem dAcceptors_init_27 : decode cAcceptors_init 27 = .ok (.newarray .int, 2) := by decide +kernel
theorem dAcceptors_init_29 : decode cAcceptors_init 29 = .ok (.putfield 22, 3) := by decide +kernel
theorem dAcceptors_init_32 : decode cAcceptors_init 32 = .ok (.aload_n 0, 1) := by decide +kernel
theorem dAcceptors_init_33 : decode cAcceptors_init 33 = .ok (.iload_n 3, 1) := by decide +kernel
theorem dAcceptors_init_34 : decode cAcceptors_init 34 = .ok (.newarray .int, 2) := by decide +kernel
theorem dAcceptors_init_36 : decode cAcceptors_init 36 = .ok (.putfield 25, 3) := by decide +kernel
theorem dAcceptors_init_39 : decode cAcceptors_init 39 = .ok (.aload_n 0, 1) := by decide +kernel
theorem dAcceptors_init_40 : decode cAcceptors_init 40 = .ok (.getfield 18, 3) := by decide +kernel
theorem dAcceptors_init_43 : decode cAcceptors_init 43 = .ok (.iconst (-1), 1) := by decide +kernel
theorem dAcceptors_init_44 : decode cAcceptors_init 44 = .ok (.invokestatic 28, 3) := by decide +kernel
theorem dAcceptors_init_47 : decode cAcceptors_init 47 = .ok (.aload_n 0, 1) := by decide +kernel
theorem dAcceptors_init_48 : decode cAcceptors_init 48 = .ok (.getfield 22, 3) := by decide +kernel
theorem dAcceptors_init_51 : decode cAcceptors_init 51 = .ok (.iconst (-1), 1) := by decide +kernel
theorem dAcceptors_init_52 : decode cAcceptors_init 52 = .ok (.invokestatic 28, 3) := by decide +kernel
theorem dAcceptors_init_55 : decode cAcceptors_init 55 = .ok (.return_, 1) := by decide +kernel
set_option maxRecDepth 100000 in
set_option maxHeartbeats 8000000 in
theorem c_Acceptors_new (l : Launch) (D : va_G) (cI cZ : ClassId) (h : Nat) (n : Nat) (S : Nat) (hn5 : n ≤ 5) (hS4 : S ≤ 4) : MC l D [(cI, .int), (cZ, .boolean)] yAcceptors_init wsAcceptors_init ({ frames := 1, cells := 3, slots := 60, locals := 23 }) [.ref h, .int (nI n), .int (nI S)] [(h, .inr (3, [.int 0, .int 0, .null, .null, .null]))] 3 60 (fun w => ∃ a1 : Nat, ∃ a2 : Nat, ∃ a3 : Nat, w = [(h, .inr (3, [.int (nI n), .int (nI S), .ref a1, .ref a2, .ref a3])), (a1, .inl (cI, n * S, .inl (fun _ => (-1)))), (a2, .inl (cI, n * S, .inl (fun _ => (-1)))), (a3, .inl (cI, n * S, .inl (fun _ => 0)))]) := by
  intro sz
  refine Met.ofW (cc := cAcceptors_init) (maxL := 4) (ret := (Option.none : Option ClassFile.FieldType)) (by decide) rfl ?_
  intro p e s m args below meth c s₁ B hml hv
  obtain ⟨rfl, hsz, hP, hK, hD0, hZ⟩ := hv
  have hx := B.exec
  have hb := B.bytes
  have hr := B.returns
  have hts := atoms_spec (ws := wsAcceptors_init) B.pre
  have hown : s.vm.findClass RAcceptors = some m.cls := findClass_of_methodNamed B.named
  have hlocks := B.notSynchronized
  have hin : meth.name = "<init>" := (name_of_methodNamed B.named B.method).1
  subst hsz
  have hD := hD0.self (sz := s.heap.size)
  generalize hAe : va_A [(h, .inr (3, [.int 0, .int 0, .null, .null, .null]))] s.heap.size = A at hD ⊢
  have hA : ∀ q : Nat, s.heap.size ≤ q → A q := fun q h => by rw [← hAe]; exact Or.inr h
  have hS : va_S A s.heap s.heap [] := va_S.rf
  have hP : va_P D vwCl [(h, .inr (3, [.int 0, .int 0, .null, .null, .null]))] s.heap := hP
  have hl := lv_entry ([.ref h, .int (nI n), .int (nI S)]) (n := 4) (Nat.le_of_ble_eq_true rfl)
  rw [lg_entry_eq]
  generalize (lg_sl ([.ref h, .int (nI n), .int (nI S)]) ++ List.replicate (4 - (lg_sl ([.ref h, .int (nI n), .int (nI S)])).length) Slot.unset).toArray = ls at hl ⊢
  have hl : lv_has ls 4 [(0, .ref h), (1, .int (nI n)), (2, .int (nI S))] := hl
  refine lv_aload_n hx hb dAcceptors_init_0 rfl (lv_at hl 0 rfl) ?_
  refine W.objInit hx hb hown (hts (.methodLink RAcceptors 3 objectInit) (mc wd70)) (hts (.instanceMethod objectInit) (mc wd15)) (hts (.code objectInit ⟨#[0xb1]⟩ 1 none) (mc wdO)) rfl (by rw [hml]; exact hl.1) rfl dAcceptors_init_1 (Nat.le_of_ble_eq_true rfl) (Nat.le_of_ble_eq_true rfl) ?_
  refine W.eq (g2 := F0 m 4 ls []) rfl ?_
  refine lv_iload_n hx hb dAcceptors_init_4 rfl (lv_at hl 1 rfl) ?_
  refine lv_iload_n hx hb dAcceptors_init_5 rfl (lv_at hl 2 rfl) ?_
  refine lv_imul hx hb dAcceptors_init_6 ?_
  refine lv_topi (nm_r (pk_mul _ _) ?_)
  refine lv_istore_n hx hb dAcceptors_init_7 rfl hl (by decide) rfl (fun ls hl => ?_)
  have hl : lv_has ls 4 [(3, .int (nI (n * S))), (0, .ref h), (1, .int (nI n)), (2, .int (nI S))] := hl
  refine lv_aload_n hx hb dAcceptors_init_8 rfl (lv_at hl 1 rfl) ?_
  refine lv_iload_n hx hb dAcceptors_init_9 rfl (lv_at hl 2 rfl) ?_
  refine va_putF (D := D) (ci := 3) (v := .int (nI n)) (ty := .int) (C := RAcceptors) (T := TAcceptors) (N := 5) hx hb hts (fun w h => mc (uAcceptors_in w h)) tyAcceptors tyAcceptors_ok nmAcceptors hown hK hP hD hS 0 rfl rfl 0 (by decide) (hts _ (mc wd72)) (fun _ h9 => h9) rfl hin rfl (by decide +kernel) rfl rfl (Nat.le_of_ble_eq_true rfl) dAcceptors_init_10 (fun H locs hP hD hS => ?_)
  have hP : va_P D vwCl [(h, .inr (3, [.int (nI n), .int 0, .null, .null, .null]))] H := hP
  have hD : va_D A [(h, .inr (3, [.int (nI n), .int 0, .null, .null, .null]))] := hD
  refine lv_aload_n hx hb dAcceptors_init_13 rfl (lv_at hl 1 rfl) ?_
  refine lv_iload_n hx hb dAcceptors_init_14 rfl (lv_at hl 3 rfl) ?_
  refine va_putF (D := D) (ci := 3) (v := .int (nI S)) (ty := .int) (C := RAcceptors) (T := TAcceptors) (N := 5) hx hb hts (fun w h => mc (uAcceptors_in w h)) tyAcceptors tyAcceptors_ok nmAcceptors hown hK hP hD hS 0 rfl rfl 1 (by decide) (hts _ (mc wd73)) (fun _ h9 => h9) rfl hin rfl (by decide +kernel) rfl rfl (Nat.le_of_ble_eq_true rfl) dAcceptors_init_15 (fun H locs hP hD hS => ?_)
  have hP : va_P D vwCl [(h, .inr (3, [.int (nI n), .int (nI S), .null, .null, .null]))] H := hP
  have hD : va_D A [(h, .inr (3, [.int (nI n), .int (nI S), .null, .null, .null]))] := hD
  refine lv_aload_n hx hb dAcceptors_init_18 rfl (lv_at hl 1 rfl) ?_
  refine lv_iload_n hx hb dAcceptors_init_19 rfl (lv_at hl 0 rfl) ?_
  refine ka_newi (N := n * S) hx hb (hts _ (mc wd36)) hK hP hD hS hA 0 rfl (by have h7 := L20 hn5 hS4; omega) (by have h7 := L20 hn5 hS4; omega) (show 0 + 1 ≤ 3 by decide) (show 0 + (n * S) ≤ 60 by (have h7 := L20 hn5 hS4; omega)) dAcceptors_init_20 (fun q20 H hP hD hS => ?_)
  have hP : va_P D vwCl [(h, .inr (3, [.int (nI n), .int (nI S), .null, .null, .null])), (q20, .inl (cI, n * S, .inl (fun _ => 0)))] H := hP
  have hD : va_D A [(h, .inr (3, [.int (nI n), .int (nI S), .null, .null, .null])), (q20, .inl (cI, n * S, .inl (fun _ => 0)))] := hD
  refine W.widen (k := 1) (n := 20) (by omega) (by (have h7 := L20 hn5 hS4; omega)) ?_
  refine va_putF (D := D) (ci := 3) (v := .ref q20) (ty := (.array .int)) (C := RAcceptors) (T := TAcceptors) (N := 5) hx hb hts (fun w h => mc (uAcceptors_in w h)) tyAcceptors tyAcceptors_ok nmAcceptors hown hK hP hD hS 0 rfl rfl 2 (by decide) (hts _ (mc wd74)) (fun _ h9 => h9) rfl hin rfl (by decide +kernel) rfl rfl (Nat.le_of_ble_eq_true rfl) dAcceptors_init_22 (fun H locs hP hD hS => ?_)
  have hP : va_P D vwCl [(h, .inr (3, [.int (nI n), .int (nI S), .ref q20, .null, .null])), (q20, .inl (cI, n * S, .inl (fun _ => 0)))] H := hP
  have hD : va_D A [(h, .inr (3, [.int (nI n), .int (nI S), .ref q20, .null, .null])), (q20, .inl (cI, n * S, .inl (fun _ => 0)))] := hD
  refine lv_aload_n hx hb dAcceptors_init_25 rfl (lv_at hl 1 rfl) ?_
  refine lv_iload_n hx hb dAcceptors_init_26 rfl (lv_at hl 0 rfl) ?_
  refine ka_newi (N := n * S) hx hb (hts _ (mc wd36)) hK hP hD hS hA 0 rfl (by have h7 := L20 hn5 hS4; omega) (by have h7 := L20 hn5 hS4; omega) (show 1 + 1 ≤ 3 by decide) (show 20 + (n * S) ≤ 60 by (have h7 := L20 hn5 hS4; omega)) dAcceptors_init_27 (fun q27 H hP hD hS => ?_)
  have hP : va_P D vwCl [(h, .inr (3, [.int (nI n), .int (nI S), .ref q20, .null, .null])), (q20, .inl (cI, n * S, .inl (fun _ => 0))), (q27, .inl (cI, n * S, .inl (fun _ => 0)))] H := hP
  have hD : va_D A [(h, .inr (3, [.int (nI n), .int (nI S), .ref q20, .null, .null])), (q20, .inl (cI, n * S, .inl (fun _ => 0))), (q27, .inl (cI, n * S, .inl (fun _ => 0)))] := hD
  refine W.widen (k := 2) (n := 40) (by omega) (by (have h7 := L20 hn5 hS4; omega)) ?_
  refine va_putF (D := D) (ci := 3) (v := .ref q27) (ty := (.array .int)) (C := RAcceptors) (T := TAcceptors) (N := 5) hx hb hts (fun w h => mc (uAcceptors_in w h)) tyAcceptors tyAcceptors_ok nmAcceptors hown hK hP hD hS 0 rfl rfl 3 (by decide) (hts _ (mc wd75)) (fun _ h9 => h9) rfl hin rfl (by decide +kernel) rfl rfl (Nat.le_of_ble_eq_true rfl) dAcceptors_init_29 (fun H locs hP hD hS => ?_)
  have hP : va_P D vwCl [(h, .inr (3, [.int (nI n), .int (nI S), .ref q20, .ref q27, .null])), (q20, .inl (cI, n * S, .inl (fun _ => 0))), (q27, .inl (cI, n * S, .inl (fun _ => 0)))] H := hP
  have hD : va_D A [(h, .inr (3, [.int (nI n), .int (nI S), .ref q20, .ref q27, .null])), (q20, .inl (cI, n * S, .inl (fun _ => 0))), (q27, .inl (cI, n * S, .inl (fun _ => 0)))] := hD
  refine lv_aload_n hx hb dAcceptors_init_32 rfl (lv_at hl 1 rfl) ?_
  refine lv_iload_n hx hb dAcceptors_init_33 rfl (lv_at hl 0 rfl) ?_
  refine ka_newi (N := n * S) hx hb (hts _ (mc wd36)) hK hP hD hS hA 0 rfl (by have h7 := L20 hn5 hS4; omega) (by have h7 := L20 hn5 hS4; omega) (show 2 + 1 ≤ 3 by decide) (show 40 + (n * S) ≤ 60 by (have h7 := L20 hn5 hS4; omega)) dAcceptors_init_34 (fun q34 H hP hD hS => ?_)
  have hP : va_P D vwCl [(h, .inr (3, [.int (nI n), .int (nI S), .ref q20, .ref q27, .null])), (q20, .inl (cI, n * S, .inl (fun _ => 0))), (q27, .inl (cI, n * S, .inl (fun _ => 0))), (q34, .inl (cI, n * S, .inl (fun _ => 0)))] H := hP
  have hD : va_D A [(h, .inr (3, [.int (nI n), .int (nI S), .ref q20, .ref q27, .null])), (q20, .inl (cI, n * S, .inl (fun _ => 0))), (q27, .inl (cI, n * S, .inl (fun _ => 0))), (q34, .inl (cI, n * S, .inl (fun _ => 0)))] := hD
  refine W.widen (k := 3) (n := 60) (by omega) (by (have h7 := L20 hn5 hS4; omega)) ?_
  refine va_putF (D := D) (ci := 3) (v := .ref q34) (ty := (.array .int)) (C := RAcceptors) (T := TAcceptors) (N := 5) hx hb hts (fun w h => mc (uAcceptors_in w h)) tyAcceptors tyAcceptors_ok nmAcceptors hown hK hP hD hS 0 rfl rfl 4 (by decide) (hts _ (mc wd76)) (fun _ h9 => h9) rfl hin rfl (by decide +kernel) rfl rfl (Nat.le_of_ble_eq_true rfl) dAcceptors_init_36 (fun H locs hP hD hS => ?_)
  have hP : va_P D vwCl [(h, .inr (3, [.int (nI n), .int (nI S), .ref q20, .ref q27, .ref q34])), (q20, .inl (cI, n * S, .inl (fun _ => 0))), (q27, .inl (cI, n * S, .inl (fun _ => 0))), (q34, .inl (cI, n * S, .inl (fun _ => 0)))] H := hP
  have hD : va_D A [(h, .inr (3, [.int (nI n), .int (nI S), .ref q20, .ref q27, .ref q34])), (q20, .inl (cI, n * S, .inl (fun _ => 0))), (q27, .inl (cI, n * S, .inl (fun _ => 0))), (q34, .inl (cI, n * S, .inl (fun _ => 0)))] := hD
  refine lv_aload_n hx hb dAcceptors_init_39 rfl (lv_at hl 1 rfl) ?_
  refine va_get (D := D) (ci := 3) (v := .ref q20) (C := RAcceptors) (T := TAcceptors) (N := 5) hx hb hts (fun w h => mc (uAcceptors_in w h)) hown hK hP 0 rfl rfl 2 (by decide) (hts _ (mc wd74)) (fun _ h9 => h9) rfl dAcceptors_init_40 ?_
  refine lv_iconst (v := (-1)) hx hb dAcceptors_init_43 (by decide) ?_
  have hPc := hP.sub (ws' := (wA q20 cI (n * S) (fun _ => 0))) [1] rfl
  have hDc := hD.sub (ws' := (wA q20 cI (n * S) (fun _ => 0))) [1] (by decide) rfl
  refine kx_v (va_runS (As := [.ref q20, .int (-1)]) (rest := []) ⟨hx, hb, hml, hown, hts⟩ ((c_fill l D cI cZ q20 (n * S) (fun _ => 0) (-1) (by have h7 := L20 hn5 hS4; omega)) H.size) (va_cwS 2 hts (gS wd71 wd44 wd4 wd45) rfl rfl rfl (by decide +kernel) ⟨Nat.le_of_ble_eq_true rfl, Nat.le_of_ble_eq_true rfl⟩) ⟨fb_PW, pre_PW hK hPc hDc hZ⟩ rfl rfl hl.1 rfl (lv_room (Nat.le_of_ble_eq_true rfl)) dAcceptors_init_44 ⟨Nat.le_of_ble_eq_true rfl, Nat.le_of_ble_eq_true rfl⟩) hP hD hS hA [1] [0, 2, 3] rfl rfl (by decide) (by decide) (fun w1 H locs hw hP hD hS => ?_)
  obtain rfl := hw
  have hP : va_P D vwCl [(h, .inr (3, [.int (nI n), .int (nI S), .ref q20, .ref q27, .ref q34])), (q20, .inl (cI, n * S, .inl (fillr (fun _ => 0) 0 ((-1)) (n * S)))), (q27, .inl (cI, n * S, .inl (fun _ => 0))), (q34, .inl (cI, n * S, .inl (fun _ => 0)))] H := hP.sub [0, 3, 1, 2] rfl
  have hD : va_D A [(h, .inr (3, [.int (nI n), .int (nI S), .ref q20, .ref q27, .ref q34])), (q20, .inl (cI, n * S, .inl (fillr (fun _ => 0) 0 ((-1)) (n * S)))), (q27, .inl (cI, n * S, .inl (fun _ => 0))), (q34, .inl (cI, n * S, .inl (fun _ => 0)))] := hD.sub [0, 3, 1, 2] (by decide) rfl
  have hP := va_P_ext (f' := fun _ => (-1)) 1 hP rfl (fun i hi => by rw [fillr_at, if_pos (by omega)])
  have hD := va_D_ext (e' := .inl (cI, n * S, .inl (fun _ => (-1)))) 1 hD rfl
  have hP : va_P D vwCl [(h, .inr (3, [.int (nI n), .int (nI S), .ref q20, .ref q27, .ref q34])), (q20, .inl (cI, n * S, .inl (fun _ => (-1)))), (q27, .inl (cI, n * S, .inl (fun _ => 0))), (q34, .inl (cI, n * S, .inl (fun _ => 0)))] H := hP
  have hD : va_D A [(h, .inr (3, [.int (nI n), .int (nI S), .ref q20, .ref q27, .ref q34])), (q20, .inl (cI, n * S, .inl (fun _ => (-1)))), (q27, .inl (cI, n * S, .inl (fun _ => 0))), (q34, .inl (cI, n * S, .inl (fun _ => 0)))] := hD
  refine lv_aload_n hx hb dAcceptors_init_47 rfl (lv_at hl 1 rfl) ?_
  refine va_get (D := D) (ci := 3) (v := .ref q27) (C := RAcceptors) (T := TAcceptors) (N := 5) hx hb hts (fun w h => mc (uAcceptors_in w h)) hown hK hP 0 rfl rfl 3 (by decide) (hts _ (mc wd75)) (fun _ h9 => h9) rfl dAcceptors_init_48 ?_
  refine lv_iconst (v := (-1)) hx hb dAcceptors_init_51 (by decide) ?_
  have hPc := hP.sub (ws' := (wA q27 cI (n * S) (fun _ => 0))) [2] rfl
  have hDc := hD.sub (ws' := (wA q27 cI (n * S) (fun _ => 0))) [2] (by decide) rfl
  refine kx_v (va_runS (As := [.ref q27, .int (-1)]) (rest := []) ⟨hx, hb, hml, hown, hts⟩ ((c_fill l D cI cZ q27 (n * S) (fun _ => 0) (-1) (by have h7 := L20 hn5 hS4; omega)) H.size) (va_cwS 2 hts (gS wd71 wd44 wd4 wd45) rfl rfl rfl (by decide +kernel) ⟨Nat.le_of_ble_eq_true rfl, Nat.le_of_ble_eq_true rfl⟩) ⟨fb_PW, pre_PW hK hPc hDc hZ⟩ rfl rfl hl.1 rfl (lv_room (Nat.le_of_ble_eq_true rfl)) dAcceptors_init_52 ⟨Nat.le_of_ble_eq_true rfl, Nat.le_of_ble_eq_true rfl⟩) hP hD hS hA [2] [0, 1, 3] rfl rfl (by decide) (by decide) (fun w1 H locs hw hP hD hS => ?_)
  obtain rfl := hw
  have hP : va_P D vwCl [(h, .inr (3, [.int (nI n), .int (nI S), .ref q20, .ref q27, .ref q34])), (q20, .inl (cI, n * S, .inl (fun _ => (-1)))), (q27, .inl (cI, n * S, .inl (fillr (fun _ => 0) 0 ((-1)) (n * S)))), (q34, .inl (cI, n * S, .inl (fun _ => 0)))] H := hP.sub [0, 1, 3, 2] rfl
  have hD : va_D A [(h, .inr (3, [.int (nI n), .int (nI S), .ref q20, .ref q27, .ref q34])), (q20, .inl (cI, n * S, .inl (fun _ => (-1)))), (q27, .inl (cI, n * S, .inl (fillr (fun _ => 0) 0 ((-1)) (n * S)))), (q34, .inl (cI, n * S, .inl (fun _ => 0)))] := hD.sub [0, 1, 3, 2] (by decide) rfl
  have hP := va_P_ext (f' := fun _ => (-1)) 2 hP rfl (fun i hi => by rw [fillr_at, if_pos (by omega)])
  have hD := va_D_ext (e' := .inl (cI, n * S, .inl (fun _ => (-1)))) 2 hD rfl
  have hP : va_P D vwCl [(h, .inr (3, [.int (nI n), .int (nI S), .ref q20, .ref q27, .ref q34])), (q20, .inl (cI, n * S, .inl (fun _ => (-1)))), (q27, .inl (cI, n * S, .inl (fun _ => (-1)))), (q34, .inl (cI, n * S, .inl (fun _ => 0)))] H := hP
  have hD : va_D A [(h, .inr (3, [.int (nI n), .int (nI S), .ref q20, .ref q27, .ref q34])), (q20, .inl (cI, n * S, .inl (fun _ => (-1)))), (q27, .inl (cI, n * S, .inl (fun _ => (-1)))), (q34, .inl (cI, n * S, .inl (fun _ => 0)))] := hD
  refine W.widen (k := 3) (n := 60) (by decide) (by decide) ?_
  exact W.vret hx hb hr (fun t9 ht9 hW9 => ⟨⟨[(h, .inr (3, [.int (nI n), .int (nI S), .ref q20, .ref q27, .ref q34])), (q20, .inl (cI, n * S, .inl (fun _ => (-1)))), (q27, .inl (cI, n * S, .inl (fun _ => (-1)))), (q34, .inl (cI, n * S, .inl (fun _ => 0)))], rfl, ⟨q20, q27, q34, rfl⟩, by rw [ht9]; exact hP, va_K.moved hW9.alike hK, hD⟩, hS.F ht9⟩) hS.2.2 dAcceptors_init_55
theorem dLearners_init_0 : decode cLearners_init 0 = .ok (.aload_n 0, 1) := by decide +kernel
theorem dLearners_init_1 : decode cLearners_init 1 = .ok (.invokespecial 3, 3) := by decide +kernel
theorem dLearners_init_4 : decode cLearners_init 4 = .ok (.iload_n 1, 1) := by decide +kernel
theorem dLearners_init_5 : decode cLearners_init 5 = .ok (.iload_n 2, 1) := by decide +kernel
theorem dLearners_init_6 : decode cLearners_init 6 = .ok (.imul, 1) := by decide +kernel
theorem dLearners_init_7 : decode cLearners_init 7 = .ok (.istore_n 3, 1) := by decide +kernel
theorem dLearners_init_8 : decode cLearners_init 8 = .ok (.aload_n 0, 1) := by decide +kernel
theorem dLearners_init_9 : decode cLearners_init 9 = .ok (.iload_n 1, 1) := by decide +kernel
theorem dLearners_init_10 : decode cLearners_init 10 = .ok (.putfield 9, 3) := by decide +kernel
theorem dLearners_init_13 : decode cLearners_init 13 = .ok (.aload_n 0, 1) := by decide +kernel
theorem dLearners_init_14 : decode cLearners_init 14 = .ok (.iload_n 3, 1) := by decide +kernel
theorem dLearners_init_15 : decode cLearners_init 15 = .ok (.iload_n 1, 1) := by decide +kernel
theorem dLearners_init_16 : decode cLearners_init 16 = .ok (.imul, 1) := by decide +kernel
theorem dLearners_init_17 : decode cLearners_init 17 = .ok (.newarray .int, 2) := by decide +kernel
theorem dLearners_init_19 : decode cLearners_init 19 = .ok (.putfield 15, 3) := by decide +kernel
theorem dLearners_init_22 : decode cLearners_init 22 = .ok (.aload_n 0, 1) := by decide +kernel
theorem dLearners_init_23 : decode cLearners_init 23 = .ok (.iload_n 3, 1) := by decide +kernel
theorem dLearners_init_24 : decode cLearners_init 24 = .ok (.newarray .int, 2) := by decide +kernel
theorem dLearners_init_26 : decode cLearners_init 26 = .ok (.putfield 19, 3) := by decide +kernel
theorem dLearners_init_29 : decode cLearners_init 29 = .ok (.aload_n 0, 1) := by decide +kernel
theorem dLearners_init_30 : decode cLearners_init 30 = .ok (.getfield 15, 3) := by decide +kernel
theorem dLearners_init_33 : decode cLearners_init 33 = .ok (.iconst (-1), 1) := by decide +kernel
theorem dLearners_init_34 : decode cLearners_init 34 = .ok (.invokestatic 22, 3) := by decide +kernel
theorem dLearners_init_37 : decode cLearners_init 37 = .ok (.return_, 1) := by decide +kernel
set_option maxRecDepth 100000 in
set_option maxHeartbeats 8000000 in
theorem c_Learners_new (l : Launch) (D : va_G) (cI cZ : ClassId) (h : Nat) (n : Nat) (S : Nat) (hn5 : n ≤ 5) (hS4 : S ≤ 4) : MC l D [(cI, .int), (cZ, .boolean)] yLearners_init wsLearners_init ({ frames := 1, cells := 2, slots := 120, locals := 23 }) [.ref h, .int (nI n), .int (nI S)] [(h, .inr (4, [.int 0, .null, .null]))] 2 120 (fun w => ∃ a1 : Nat, ∃ a2 : Nat, w = [(h, .inr (4, [.int (nI n), .ref a1, .ref a2])), (a1, .inl (cI, n * S * n, .inl (fun _ => (-1)))), (a2, .inl (cI, n * S, .inl (fun _ => 0)))]) := by
  intro sz
  refine Met.ofW (cc := cLearners_init) (maxL := 4) (ret := (Option.none : Option ClassFile.FieldType)) (by decide) rfl ?_
  intro p e s m args below meth c s₁ B hml hv
  obtain ⟨rfl, hsz, hP, hK, hD0, hZ⟩ := hv
  have hx := B.exec
  have hb := B.bytes
  have hr := B.returns
  have hts := atoms_spec (ws := wsLearners_init) B.pre
  have hown : s.vm.findClass RLearners = some m.cls := findClass_of_methodNamed B.named
  have hlocks := B.notSynchronized
  have hin : meth.name = "<init>" := (name_of_methodNamed B.named B.method).1
  subst hsz
  have hD := hD0.self (sz := s.heap.size)
  generalize hAe : va_A [(h, .inr (4, [.int 0, .null, .null]))] s.heap.size = A at hD ⊢
  have hA : ∀ q : Nat, s.heap.size ≤ q → A q := fun q h => by rw [← hAe]; exact Or.inr h
  have hS : va_S A s.heap s.heap [] := va_S.rf
  have hP : va_P D vwCl [(h, .inr (4, [.int 0, .null, .null]))] s.heap := hP
  have hl := lv_entry ([.ref h, .int (nI n), .int (nI S)]) (n := 4) (Nat.le_of_ble_eq_true rfl)
  rw [lg_entry_eq]
  generalize (lg_sl ([.ref h, .int (nI n), .int (nI S)]) ++ List.replicate (4 - (lg_sl ([.ref h, .int (nI n), .int (nI S)])).length) Slot.unset).toArray = ls at hl ⊢
  have hl : lv_has ls 4 [(0, .ref h), (1, .int (nI n)), (2, .int (nI S))] := hl
  refine lv_aload_n hx hb dLearners_init_0 rfl (lv_at hl 0 rfl) ?_
  refine W.objInit hx hb hown (hts (.methodLink RLearners 3 objectInit) (mc wd93)) (hts (.instanceMethod objectInit) (mc wd15)) (hts (.code objectInit ⟨#[0xb1]⟩ 1 none) (mc wdO)) rfl (by rw [hml]; exact hl.1) rfl dLearners_init_1 (Nat.le_of_ble_eq_true rfl) (Nat.le_of_ble_eq_true rfl) ?_
  refine W.eq (g2 := F0 m 4 ls []) rfl ?_
  refine lv_iload_n hx hb dLearners_init_4 rfl (lv_at hl 1 rfl) ?_
  refine lv_iload_n hx hb dLearners_init_5 rfl (lv_at hl 2 rfl) ?_
  refine lv_imul hx hb dLearners_init_6 ?_
  refine lv_topi (nm_r (pk_mul _ _) ?_)
  refine lv_istore_n hx hb dLearners_init_7 rfl hl (by decide) rfl (fun ls hl => ?_)
  have hl : lv_has ls 4 [(3, .int (nI (n * S))), (0, .ref h), (1, .int (nI n)), (2, .int (nI S))] := hl
  refine lv_aload_n hx hb dLearners_init_8 rfl (lv_at hl 1 rfl) ?_
  refine lv_iload_n hx hb dLearners_init_9 rfl (lv_at hl 2 rfl) ?_
  refine va_putF (D := D) (ci := 4) (v := .int (nI n)) (ty := .int) (C := RLearners) (T := TLearners) (N := 3) hx hb hts (fun w h => mc (uLearners_in w h)) tyLearners tyLearners_ok nmLearners hown hK hP hD hS 0 rfl rfl 0 (by decide) (hts _ (mc wd95)) (fun _ h9 => h9) rfl hin rfl (by decide +kernel) rfl rfl (Nat.le_of_ble_eq_true rfl) dLearners_init_10 (fun H locs hP hD hS => ?_)
  have hP : va_P D vwCl [(h, .inr (4, [.int (nI n), .null, .null]))] H := hP
  have hD : va_D A [(h, .inr (4, [.int (nI n), .null, .null]))] := hD
  refine lv_aload_n hx hb dLearners_init_13 rfl (lv_at hl 1 rfl) ?_
  refine lv_iload_n hx hb dLearners_init_14 rfl (lv_at hl 0 rfl) ?_
  refine lv_iload_n hx hb dLearners_init_15 rfl (lv_at hl 2 rfl) ?_
  refine lv_imul hx hb dLearners_init_16 ?_
  refine lv_topi (nm_r (pk_mul _ _) ?_)
  refine ka_newi (N := (n * S) * n) hx hb (hts _ (mc wd36)) hK hP hD hS hA 0 rfl (by have h7 := Nat.mul_le_mul (L20 hn5 hS4) hn5; omega) (by have h7 := Nat.mul_le_mul (L20 hn5 hS4) hn5; omega) (show 0 + 1 ≤ 2 by decide) (show 0 + ((n * S) * n) ≤ 120 by (have h7 := Nat.mul_le_mul (L20 hn5 hS4) hn5; omega)) dLearners_init_17 (fun q17 H hP hD hS => ?_)
  have hP : va_P D vwCl [(h, .inr (4, [.int (nI n), .null, .null])), (q17, .inl (cI, (n * S) * n, .inl (fun _ => 0)))] H := hP
  have hD : va_D A [(h, .inr (4, [.int (nI n), .null, .null])), (q17, .inl (cI, (n * S) * n, .inl (fun _ => 0)))] := hD
  refine W.widen (k := 1) (n := 100) (by omega) (by (have h7 := Nat.mul_le_mul (L20 hn5 hS4) hn5; omega)) ?_
  refine va_putF (D := D) (ci := 4) (v := .ref q17) (ty := (.array .int)) (C := RLearners) (T := TLearners) (N := 3) hx hb hts (fun w h => mc (uLearners_in w h)) tyLearners tyLearners_ok nmLearners hown hK hP hD hS 0 rfl rfl 1 (by decide) (hts _ (mc wd96)) (fun _ h9 => h9) rfl hin rfl (by decide +kernel) rfl rfl (Nat.le_of_ble_eq_true rfl) dLearners_init_19 (fun H locs hP hD hS => ?_)
  have hP : va_P D vwCl [(h, .inr (4, [.int (nI n), .ref q17, .null])), (q17, .inl (cI, (n * S) * n, .inl (fun _ => 0)))] H := hP
  have hD : va_D A [(h, .inr (4, [.int (nI n), .ref q17, .null])), (q17, .inl (cI, (n * S) * n, .inl (fun _ => 0)))] := hD
  refine lv_aload_n hx hb dLearners_init_22 rfl (lv_at hl 1 rfl) ?_
  refine lv_iload_n hx hb dLearners_init_23 rfl (lv_at hl 0 rfl) ?_
  refine ka_newi (N := n * S) hx hb (hts _ (mc wd36)) hK hP hD hS hA 0 rfl (by have h7 := L20 hn5 hS4; omega) (by have h7 := L20 hn5 hS4; omega) (show 1 + 1 ≤ 2 by decide) (show 100 + (n * S) ≤ 120 by (have h7 := L20 hn5 hS4; omega)) dLearners_init_24 (fun q24 H hP hD hS => ?_)
  have hP : va_P D vwCl [(h, .inr (4, [.int (nI n), .ref q17, .null])), (q17, .inl (cI, (n * S) * n, .inl (fun _ => 0))), (q24, .inl (cI, n * S, .inl (fun _ => 0)))] H := hP
  have hD : va_D A [(h, .inr (4, [.int (nI n), .ref q17, .null])), (q17, .inl (cI, (n * S) * n, .inl (fun _ => 0))), (q24, .inl (cI, n * S, .inl (fun _ => 0)))] := hD
  refine W.widen (k := 2) (n := 120) (by omega) (by (have h7 := L20 hn5 hS4; omega)) ?_
  refine va_putF (D := D) (ci := 4) (v := .ref q24) (ty := (.array .int)) (C := RLearners) (T := TLearners) (N := 3) hx hb hts (fun w h => mc (uLearners_in w h)) tyLearners tyLearners_ok nmLearners hown hK hP hD hS 0 rfl rfl 2 (by decide) (hts _ (mc wd97)) (fun _ h9 => h9) rfl hin rfl (by decide +kernel) rfl rfl (Nat.le_of_ble_eq_true rfl) dLearners_init_26 (fun H locs hP hD hS => ?_)
  have hP : va_P D vwCl [(h, .inr (4, [.int (nI n), .ref q17, .ref q24])), (q17, .inl (cI, (n * S) * n, .inl (fun _ => 0))), (q24, .inl (cI, n * S, .inl (fun _ => 0)))] H := hP
  have hD : va_D A [(h, .inr (4, [.int (nI n), .ref q17, .ref q24])), (q17, .inl (cI, (n * S) * n, .inl (fun _ => 0))), (q24, .inl (cI, n * S, .inl (fun _ => 0)))] := hD
  refine lv_aload_n hx hb dLearners_init_29 rfl (lv_at hl 1 rfl) ?_
  refine va_get (D := D) (ci := 4) (v := .ref q17) (C := RLearners) (T := TLearners) (N := 3) hx hb hts (fun w h => mc (uLearners_in w h)) hown hK hP 0 rfl rfl 1 (by decide) (hts _ (mc wd96)) (fun _ h9 => h9) rfl dLearners_init_30 ?_
  refine lv_iconst (v := (-1)) hx hb dLearners_init_33 (by decide) ?_
  have hPc := hP.sub (ws' := (wA q17 cI ((n * S) * n) (fun _ => 0))) [1] rfl
  have hDc := hD.sub (ws' := (wA q17 cI ((n * S) * n) (fun _ => 0))) [1] (by decide) rfl
  refine kx_v (va_runS (As := [.ref q17, .int (-1)]) (rest := []) ⟨hx, hb, hml, hown, hts⟩ ((c_fill l D cI cZ q17 ((n * S) * n) (fun _ => 0) (-1) (by have h7 := Nat.mul_le_mul (L20 hn5 hS4) hn5; omega)) H.size) (va_cwS 2 hts (gS wd94 wd44 wd4 wd45) rfl rfl rfl (by decide +kernel) ⟨Nat.le_of_ble_eq_true rfl, Nat.le_of_ble_eq_true rfl⟩) ⟨fb_PW, pre_PW hK hPc hDc hZ⟩ rfl rfl hl.1 rfl (lv_room (Nat.le_of_ble_eq_true rfl)) dLearners_init_34 ⟨Nat.le_of_ble_eq_true rfl, Nat.le_of_ble_eq_true rfl⟩) hP hD hS hA [1] [0, 2] rfl rfl (by decide) (by decide) (fun w1 H locs hw hP hD hS => ?_)
  obtain rfl := hw
  have hP : va_P D vwCl [(h, .inr (4, [.int (nI n), .ref q17, .ref q24])), (q17, .inl (cI, (n * S) * n, .inl (fillr (fun _ => 0) 0 ((-1)) ((n * S) * n)))), (q24, .inl (cI, n * S, .inl (fun _ => 0)))] H := hP.sub [0, 2, 1] rfl
  have hD : va_D A [(h, .inr (4, [.int (nI n), .ref q17, .ref q24])), (q17, .inl (cI, (n * S) * n, .inl (fillr (fun _ => 0) 0 ((-1)) ((n * S) * n)))), (q24, .inl (cI, n * S, .inl (fun _ => 0)))] := hD.sub [0, 2, 1] (by decide) rfl
  have hP := va_P_ext (f' := fun _ => (-1)) 1 hP rfl (fun i hi => by rw [fillr_at, if_pos (by omega)])
  have hD := va_D_ext (e' := .inl (cI, (n * S) * n, .inl (fun _ => (-1)))) 1 hD rfl
  have hP : va_P D vwCl [(h, .inr (4, [.int (nI n), .ref q17, .ref q24])), (q17, .inl (cI, (n * S) * n, .inl (fun _ => (-1)))), (q24, .inl (cI, n * S, .inl (fun _ => 0)))] H := hP
  have hD : va_D A [(h, .inr (4, [.int (nI n), .ref q17, .ref q24])), (q17, .inl (cI, (n * S) * n, .inl (fun _ => (-1)))), (q24, .inl (cI, n * S, .inl (fun _ => 0)))] := hD
  refine W.widen (k := 2) (n := 120) (by decide) (by decide) ?_
  exact W.vret hx hb hr (fun t9 ht9 hW9 => ⟨⟨[(h, .inr (4, [.int (nI n), .ref q17, .ref q24])), (q17, .inl (cI, (n * S) * n, .inl (fun _ => (-1)))), (q24, .inl (cI, n * S, .inl (fun _ => 0)))], rfl, ⟨q17, q24, rfl⟩, by rw [ht9]; exact hP, va_K.moved hW9.alike hK, hD⟩, hS.F ht9⟩) hS.2.2 dLearners_init_37
