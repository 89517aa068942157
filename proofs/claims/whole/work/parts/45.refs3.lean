theorem dModel_drop_0 : decode cModel_drop 0 = .ok (.aload_n 0, 1) := by decide +kernel
theorem dModel_drop_1 : decode cModel_drop 1 = .ok (.iload_n 1, 1) := by decide +kernel
theorem dModel_drop_2 : decode cModel_drop 2 = .ok (.invokevirtual 124, 3) := by decide +kernel
theorem dModel_drop_5 : decode cModel_drop 5 = .ok (.ifCond .ne 5, 3) := by decide +kernel
theorem dModel_drop_8 : decode cModel_drop 8 = .ok (.iconst (-1), 1) := by decide +kernel
theorem dModel_drop_9 : decode cModel_drop 9 = .ok (.ireturn, 1) := by decide +kernel
theorem dModel_drop_10 : decode cModel_drop 10 = .ok (.aload_n 0, 1) := by decide +kernel
theorem dModel_drop_11 : decode cModel_drop 11 = .ok (.getfield 13, 3) := by decide +kernel
theorem dModel_drop_14 : decode cModel_drop 14 = .ok (.iload_n 1, 1) := by decide +kernel
theorem dModel_drop_15 : decode cModel_drop 15 = .ok (.iaload, 1) := by decide +kernel
theorem dModel_drop_16 : decode cModel_drop 16 = .ok (.istore_n 2, 1) := by decide +kernel
theorem dModel_drop_17 : decode cModel_drop 17 = .ok (.aload_n 0, 1) := by decide +kernel
theorem dModel_drop_18 : decode cModel_drop 18 = .ok (.getfield 13, 3) := by decide +kernel
theorem dModel_drop_21 : decode cModel_drop 21 = .ok (.iload_n 1, 1) := by decide +kernel
theorem dModel_drop_22 : decode cModel_drop 22 = .ok (.iconst 0, 1) := by decide +kernel
theorem dModel_drop_23 : decode cModel_drop 23 = .ok (.iastore, 1) := by decide +kernel
theorem dModel_drop_24 : decode cModel_drop 24 = .ok (.aload_n 0, 1) := by decide +kernel
theorem dModel_drop_25 : decode cModel_drop 25 = .ok (.dup, 1) := by decide +kernel
theorem dModel_drop_26 : decode cModel_drop 26 = .ok (.getfield 133, 3) := by decide +kernel
theorem dModel_drop_29 : decode cModel_drop 29 = .ok (.iconst 1, 1) := by decide +kernel
theorem dModel_drop_30 : decode cModel_drop 30 = .ok (.iadd, 1) := by decide +kernel
theorem dModel_drop_31 : decode cModel_drop 31 = .ok (.putfield 133, 3) := by decide +kernel
theorem dModel_drop_34 : decode cModel_drop 34 = .ok (.iload_n 2, 1) := by decide +kernel
theorem dModel_drop_35 : decode cModel_drop 35 = .ok (.ireturn, 1) := by decide +kernel
set_option maxRecDepth 100000 in
set_option maxHeartbeats 4000000 in
theorem m_drop (l : Launch) (D : va_G) (cI cZ : ClassId) (qm : Nat → Nat) (n : Nat) (S : Nat) (P : Nat) (x : St) (v : Int32) (hn1 : 1 ≤ n) (hn5 : n ≤ 5) (hS1 : 1 ≤ S) (hS4 : S ≤ 4) (hP5 : 5 ≤ P) (hP64 : P ≤ 64) (hIn : Inv n S x) : MI l D [(cI, .int), (cZ, .boolean)] yModel_drop wsModel_drop ({ frames := 1, cells := 0, slots := 0, locals := 21 }) [.ref (qm 0), .int v] (wM qm cI cZ n S P x) (fun r w => r = (sDrop P x v).1 ∧ w = (wM qm cI cZ n S P (sDrop P x v).2)) := by
  intro sz
  refine Met.ofW (cc := cModel_drop) (maxL := 3) (ret := (Option.some .int)) (by decide) rfl ?_
  intro p e s m args below meth c s₁ B hml hv
  obtain ⟨rfl, hsz, hP, hK, hD0, hZ⟩ := hv
  have hx := B.exec
  have hb := B.bytes
  have hr := B.returns
  have hts := atoms_spec (ws := wsModel_drop) B.pre
  have hown : s.vm.findClass RModel = some m.cls := findClass_of_methodNamed B.named
  have hlocks := B.notSynchronized
  subst hsz
  have hD := hD0.self (sz := s.heap.size)
  generalize hAe : va_A (wM qm cI cZ n S P x) s.heap.size = A at hD ⊢
  have hA : ∀ q : Nat, s.heap.size ≤ q → A q := fun q h => by rw [← hAe]; exact Or.inr h
  have hS : va_S A s.heap s.heap [] := va_S.rf
  have hP : va_P D vwCl (wM qm cI cZ n S P x) s.heap := hP
  have hl := lv_entry ([.ref (qm 0), .int v]) (n := 3) (Nat.le_of_ble_eq_true rfl)
  rw [lg_entry_eq]
  generalize (lg_sl ([.ref (qm 0), .int v]) ++ List.replicate (3 - (lg_sl ([.ref (qm 0), .int v])).length) Slot.unset).toArray = ls at hl ⊢
  have hl : lv_has ls 3 [(0, .ref (qm 0)), (1, .int v)] := hl
  refine lv_aload_n hx hb dModel_drop_0 rfl (lv_at hl 0 rfl) ?_
  refine lv_iload_n hx hb dModel_drop_1 rfl (lv_at hl 1 rfl) ?_
  have hPc := hP.sub (ws' := (wM qm cI cZ n S P x)) [0, 1, 2, 3, 4, 5, 6, 7, 8, 9, 10, 11, 12, 13, 14, 15, 16, 17, 18, 19, 20] rfl
  have hDc := hD.sub (ws' := (wM qm cI cZ n S P x)) [0, 1, 2, 3, 4, 5, 6, 7, 8, 9, 10, 11, 12, 13, 14, 15, 16, 17, 18, 19, 20] (by decide) rfl
  refine kx_i (va_runV (As := [.int v]) (rest := []) ⟨hx, hb, hml, hown, hts⟩ ((m_isMessage l D cI cZ qm n S P x v (hn1) (hn5) (hS1) (hS4) (hP5) (hP64) (hIn.1)) s.heap.size) (cwV 1 hts (gV wd510 wd512 sl_Model_isMessage wd7 wd513) rfl rfl rfl (by decide +kernel) ⟨Nat.le_of_ble_eq_true rfl, Nat.le_of_ble_eq_true rfl⟩) ⟨fb_PW, va_recv (q0 := 0) (ci := 5) hK hPc rfl rfl, pre_PW hK hPc hDc hZ⟩ rfl rfl hl.1 rfl (lv_room (Nat.le_of_ble_eq_true rfl)) dModel_drop_2 ⟨Nat.zero_le _, Nat.zero_le _⟩) hP hD hS hA [0, 1, 2, 3, 4, 5, 6, 7, 8, 9, 10, 11, 12, 13, 14, 15, 16, 17, 18, 19, 20] [] rfl rfl (by decide) (by decide) (fun r w1 H locs hw hP hD hS => ?_)
  rcases hw with ⟨rfl, h2, rfl⟩ | ⟨rfl, h2, rfl⟩
  · have hP : va_P D vwCl (wM qm cI cZ n S P x) H := hP
    have hD : va_D A (wM qm cI cZ n S P x) := hD
    obtain ⟨j, hj, rfl⟩ := okN_of (show P < 2 ^ 31 by omega) h2.1
    have hk0 : x.1 0 j 0 ≠ 0 := by have h6 := h2.2; rw [ix_nI hj (by omega)] at h6; exact h6
    have hisM : isM P x (nI j) := h2
    refine lv_if_ne (tgt := 10) hx hb dModel_drop_5 (by decide) (fun _ => ?_) (fun h9 => absurd h9 (by decide))
    refine lv_aload_n hx hb dModel_drop_10 rfl (lv_at hl 0 rfl) ?_
    refine va_get (D := D) (ci := 5) (v := .ref (qm 2)) (C := RModel) (T := TModel) (N := 25) hx hb hts (fun w h => mc (uModel_in w h)) hown hK hP 0 rfl rfl 4 (by decide) (hts _ (mc wd409)) (fun _ h9 => h9) rfl dModel_drop_11 ?_
    refine lv_iload_n hx hb dModel_drop_14 rfl (lv_at hl 1 rfl) ?_
    refine ka_ld (v := x.1 0 j 0) hx hb hK hP 2 0 rfl rfl (by omega) (by omega) rfl dModel_drop_15 ?_
    refine lv_istore_n hx hb dModel_drop_16 rfl hl (by decide) rfl (fun ls hl => ?_)
    have hl : lv_has ls 3 [(2, .int (x.1 0 j 0)), (0, .ref (qm 0)), (1, .int (nI j))] := hl
    refine lv_aload_n hx hb dModel_drop_17 rfl (lv_at hl 1 rfl) ?_
    refine va_get (D := D) (ci := 5) (v := .ref (qm 2)) (C := RModel) (T := TModel) (N := 25) hx hb hts (fun w h => mc (uModel_in w h)) hown hK hP 0 rfl rfl 4 (by decide) (hts _ (mc wd409)) (fun _ h9 => h9) rfl dModel_drop_18 ?_
    refine lv_iload_n hx hb dModel_drop_21 rfl (lv_at hl 2 rfl) ?_
    refine lv_iconst (v := nI 0) hx hb dModel_drop_22 (by decide) ?_
    refine ka_st (f' := col (up2 (x.1 0) j 0 (nI 0)) 0) hx hb hK hP hD hS 2 0 rfl rfl (by omega) (by omega) col_up dModel_drop_23 (fun H locs hP hD hS => ?_)
    have hP : va_P D vwCl (wR qm cI cZ n S P (col (x.1 13) 0) (col (up2 (x.1 0) j 0 (nI 0)) 0) (col (x.1 0) 1) (col (x.1 0) 2) (col (x.1 0) 3) (col (x.1 0) 4) (col (x.1 0) 5) (col (x.1 0) 6) (sq 4 (x.1 2)) (sq 4 (x.1 1)) (sq 4 (x.1 6)) (sq 4 (x.1 3)) (sq 4 (x.1 4)) (sq 4 (x.1 7)) (sq 4 (x.1 8)) (sq 4 (x.1 9)) (sq 4 (x.1 10)) (hrm (x.2 0)) (hrm (x.2 1)) (sq 4 (x.1 11)) (x.1 12 0 0) (x.1 12 0 1)) H := hP
    have hD : va_D A (wR qm cI cZ n S P (col (x.1 13) 0) (col (up2 (x.1 0) j 0 (nI 0)) 0) (col (x.1 0) 1) (col (x.1 0) 2) (col (x.1 0) 3) (col (x.1 0) 4) (col (x.1 0) 5) (col (x.1 0) 6) (sq 4 (x.1 2)) (sq 4 (x.1 1)) (sq 4 (x.1 6)) (sq 4 (x.1 3)) (sq 4 (x.1 4)) (sq 4 (x.1 7)) (sq 4 (x.1 8)) (sq 4 (x.1 9)) (sq 4 (x.1 10)) (hrm (x.2 0)) (hrm (x.2 1)) (sq 4 (x.1 11)) (x.1 12 0 0) (x.1 12 0 1)) := hD
    refine lv_aload_n hx hb dModel_drop_24 rfl (lv_at hl 1 rfl) ?_
    refine lv_dup hx hb dModel_drop_25 rfl ?_
    refine va_get (D := D) (ci := 5) (v := .int (x.1 12 0 1)) (C := RModel) (T := TModel) (N := 25) hx hb hts (fun w h => mc (uModel_in w h)) hown hK hP 0 rfl rfl 24 (by decide) (hts _ (mc wd429)) (fun _ h9 => h9) rfl dModel_drop_26 ?_
    refine lv_iconst (v := nI 1) hx hb dModel_drop_29 (by decide) ?_
    refine lv_iadd hx hb dModel_drop_30 ?_
    refine va_put (D := D) (ci := 5) (v := .int ((x.1 12 0 1) + (nI 1))) (ty := .int) (C := RModel) (T := TModel) (N := 25) hx hb hts (fun w h => mc (uModel_in w h)) tyModel tyModel_ok nmModel hown hK hP hD hS 0 rfl rfl 24 (by decide) (hts _ (mc wd429)) (fun _ h9 => h9) rfl (by decide +kernel) rfl rfl (Nat.le_of_ble_eq_true rfl) dModel_drop_31 (fun H locs hP hD hS => ?_)
    have hP : va_P D vwCl (wR qm cI cZ n S P (col (x.1 13) 0) (col (up2 (x.1 0) j 0 (nI 0)) 0) (col (x.1 0) 1) (col (x.1 0) 2) (col (x.1 0) 3) (col (x.1 0) 4) (col (x.1 0) 5) (col (x.1 0) 6) (sq 4 (x.1 2)) (sq 4 (x.1 1)) (sq 4 (x.1 6)) (sq 4 (x.1 3)) (sq 4 (x.1 4)) (sq 4 (x.1 7)) (sq 4 (x.1 8)) (sq 4 (x.1 9)) (sq 4 (x.1 10)) (hrm (x.2 0)) (hrm (x.2 1)) (sq 4 (x.1 11)) (x.1 12 0 0) ((x.1 12 0 1) + (nI 1))) H := hP
    have hD : va_D A (wR qm cI cZ n S P (col (x.1 13) 0) (col (up2 (x.1 0) j 0 (nI 0)) 0) (col (x.1 0) 1) (col (x.1 0) 2) (col (x.1 0) 3) (col (x.1 0) 4) (col (x.1 0) 5) (col (x.1 0) 6) (sq 4 (x.1 2)) (sq 4 (x.1 1)) (sq 4 (x.1 6)) (sq 4 (x.1 3)) (sq 4 (x.1 4)) (sq 4 (x.1 7)) (sq 4 (x.1 8)) (sq 4 (x.1 9)) (sq 4 (x.1 10)) (hrm (x.2 0)) (hrm (x.2 1)) (sq 4 (x.1 11)) (x.1 12 0 0) ((x.1 12 0 1) + (nI 1))) := hD
    have hW1 : (wR qm cI cZ n S P (col (x.1 13) 0) (col (up2 (x.1 0) j 0 (nI 0)) 0) (col (x.1 0) 1) (col (x.1 0) 2) (col (x.1 0) 3) (col (x.1 0) 4) (col (x.1 0) 5) (col (x.1 0) 6) (sq 4 (x.1 2)) (sq 4 (x.1 1)) (sq 4 (x.1 6)) (sq 4 (x.1 3)) (sq 4 (x.1 4)) (sq 4 (x.1 7)) (sq 4 (x.1 8)) (sq 4 (x.1 9)) (sq 4 (x.1 10)) (hrm (x.2 0)) (hrm (x.2 1)) (sq 4 (x.1 11)) (x.1 12 0 0) ((x.1 12 0 1) + (nI 1))) = (wM qm cI cZ n S P (sLost (put x 0 j 0 (nI 0)))) := wM_k0.trans (by rw [put12_id2]; rfl)
    rw [hW1] at hP hD
    refine lv_iload_n hx hb dModel_drop_34 rfl (lv_at hl 0 rfl) ?_
    exact W.iret (v := x.1 0 j 0) hx hb hr (fun t9 ht9 hW9 => ⟨⟨x.1 0 j 0, (wM qm cI cZ n S P (sLost (put x 0 j 0 (nI 0)))), rfl, fin3 (by unfold sDrop; rw [if_pos hisM, ix_nI hj (by omega)]), by rw [ht9]; exact hP, va_K.moved hW9.alike hK, hD⟩, hS.F ht9⟩) hS.2.2 dModel_drop_35
  · have hP : va_P D vwCl (wM qm cI cZ n S P x) H := hP
    have hD : va_D A (wM qm cI cZ n S P x) := hD
    refine lv_if_ne (tgt := 10) hx hb dModel_drop_5 (by decide) (fun h9 => absurd (by decide) h9) (fun _ => ?_)
    refine lv_iconst (v := (-1)) hx hb dModel_drop_8 (by decide) ?_
    exact W.iret (v := (-1)) hx hb hr (fun t9 ht9 hW9 => ⟨⟨(-1), (wM qm cI cZ n S P x), rfl, fin3 (if_neg h2), by rw [ht9]; exact hP, va_K.moved hW9.alike hK, hD⟩, hS.F ht9⟩) hS.2.2 dModel_drop_9
theorem dModel_duplicate_0 : decode cModel_duplicate 0 = .ok (.aload_n 0, 1) := by decide +kernel
theorem dModel_duplicate_1 : decode cModel_duplicate 1 = .ok (.iload_n 1, 1) := by decide +kernel
theorem dModel_duplicate_2 : decode cModel_duplicate 2 = .ok (.invokevirtual 124, 3) := by decide +kernel
theorem dModel_duplicate_5 : decode cModel_duplicate 5 = .ok (.ifCond .ne 5, 3) := by decide +kernel
theorem dModel_duplicate_8 : decode cModel_duplicate 8 = .ok (.iconst (-1), 1) := by decide +kernel
theorem dModel_duplicate_9 : decode cModel_duplicate 9 = .ok (.ireturn, 1) := by decide +kernel
theorem dModel_duplicate_10 : decode cModel_duplicate 10 = .ok (.aload_n 0, 1) := by decide +kernel
theorem dModel_duplicate_11 : decode cModel_duplicate 11 = .ok (.invokevirtual 92, 3) := by decide +kernel
theorem dModel_duplicate_14 : decode cModel_duplicate 14 = .ok (.ifCond .ne 8, 3) := by decide +kernel
theorem dModel_duplicate_17 : decode cModel_duplicate 17 = .ok (.bipush (-4), 2) := by decide +kernel
theorem dModel_duplicate_19 : decode cModel_duplicate 19 = .ok (.goto 49, 3) := by decide +kernel
theorem dModel_duplicate_22 : decode cModel_duplicate 22 = .ok (.aload_n 0, 1) := by decide +kernel
theorem dModel_duplicate_23 : decode cModel_duplicate 23 = .ok (.aload_n 0, 1) := by decide +kernel
theorem dModel_duplicate_24 : decode cModel_duplicate 24 = .ok (.getfield 13, 3) := by decide +kernel
theorem dModel_duplicate_27 : decode cModel_duplicate 27 = .ok (.iload_n 1, 1) := by decide +kernel
theorem dModel_duplicate_28 : decode cModel_duplicate 28 = .ok (.iaload, 1) := by decide +kernel
theorem dModel_duplicate_29 : decode cModel_duplicate 29 = .ok (.aload_n 0, 1) := by decide +kernel
theorem dModel_duplicate_30 : decode cModel_duplicate 30 = .ok (.getfield 17, 3) := by decide +kernel
theorem dModel_duplicate_33 : decode cModel_duplicate 33 = .ok (.iload_n 1, 1) := by decide +kernel
theorem dModel_duplicate_34 : decode cModel_duplicate 34 = .ok (.iaload, 1) := by decide +kernel
theorem dModel_duplicate_35 : decode cModel_duplicate 35 = .ok (.aload_n 0, 1) := by decide +kernel
theorem dModel_duplicate_36 : decode cModel_duplicate 36 = .ok (.getfield 20, 3) := by decide +kernel
theorem dModel_duplicate_39 : decode cModel_duplicate 39 = .ok (.iload_n 1, 1) := by decide +kernel
theorem dModel_duplicate_40 : decode cModel_duplicate 40 = .ok (.iaload, 1) := by decide +kernel
theorem dModel_duplicate_41 : decode cModel_duplicate 41 = .ok (.aload_n 0, 1) := by decide +kernel
theorem dModel_duplicate_42 : decode cModel_duplicate 42 = .ok (.getfield 23, 3) := by decide +kernel
theorem dModel_duplicate_45 : decode cModel_duplicate 45 = .ok (.iload_n 1, 1) := by decide +kernel
theorem dModel_duplicate_46 : decode cModel_duplicate 46 = .ok (.iaload, 1) := by decide +kernel
theorem dModel_duplicate_47 : decode cModel_duplicate 47 = .ok (.aload_n 0, 1) := by decide +kernel
theorem dModel_duplicate_48 : decode cModel_duplicate 48 = .ok (.getfield 26, 3) := by decide +kernel
theorem dModel_duplicate_51 : decode cModel_duplicate 51 = .ok (.iload_n 1, 1) := by decide +kernel
theorem dModel_duplicate_52 : decode cModel_duplicate 52 = .ok (.iaload, 1) := by decide +kernel
theorem dModel_duplicate_53 : decode cModel_duplicate 53 = .ok (.aload_n 0, 1) := by decide +kernel
theorem dModel_duplicate_54 : decode cModel_duplicate 54 = .ok (.getfield 29, 3) := by decide +kernel
theorem dModel_duplicate_57 : decode cModel_duplicate 57 = .ok (.iload_n 1, 1) := by decide +kernel
theorem dModel_duplicate_58 : decode cModel_duplicate 58 = .ok (.iaload, 1) := by decide +kernel
theorem dModel_duplicate_59 : decode cModel_duplicate 59 = .ok (.aload_n 0, 1) := by decide +kernel
theorem dModel_duplicate_60 : decode cModel_duplicate 60 = .ok (.getfield 32, 3) := by decide +kernel
theorem dModel_duplicate_63 : decode cModel_duplicate 63 = .ok (.iload_n 1, 1) := by decide +kernel
theorem dModel_duplicate_64 : decode cModel_duplicate 64 = .ok (.iaload, 1) := by decide +kernel
theorem dModel_duplicate_65 : decode cModel_duplicate 65 = .ok (.invokevirtual 81, 3) := by decide +kernel
theorem dModel_duplicate_68 : decode cModel_duplicate 68 = .ok (.ireturn, 1) := by decide +kernel
set_option maxRecDepth 100000 in
set_option maxHeartbeats 4000000 in
theorem m_duplicate (l : Launch) (D : va_G) (cI cZ : ClassId) (qm : Nat → Nat) (n : Nat) (S : Nat) (P : Nat) (x : St) (v : Int32) (hn1 : 1 ≤ n) (hn5 : n ≤ 5) (hS1 : 1 ≤ S) (hS4 : S ≤ 4) (hP5 : 5 ≤ P) (hP64 : P ≤ 64) (hIn : Inv n S x) : MI l D [(cI, .int), (cZ, .boolean)] yModel_duplicate wsModel_duplicate ({ frames := 1, cells := 0, slots := 0, locals := 28 }) [.ref (qm 0), .int v] (wM qm cI cZ n S P x) (fun r w => r = (sDup P x v).1 ∧ w = (wM qm cI cZ n S P (sDup P x v).2)) := by
  intro sz
  refine Met.ofW (cc := cModel_duplicate) (maxL := 2) (ret := (Option.some .int)) (by decide) rfl ?_
  intro p e s m args below meth c s₁ B hml hv
  obtain ⟨rfl, hsz, hP, hK, hD0, hZ⟩ := hv
  have hx := B.exec
  have hb := B.bytes
  have hr := B.returns
  have hts := atoms_spec (ws := wsModel_duplicate) B.pre
  have hown : s.vm.findClass RModel = some m.cls := findClass_of_methodNamed B.named
  have hlocks := B.notSynchronized
  subst hsz
  have hD := hD0.self (sz := s.heap.size)
  generalize hAe : va_A (wM qm cI cZ n S P x) s.heap.size = A at hD ⊢
  have hA : ∀ q : Nat, s.heap.size ≤ q → A q := fun q h => by rw [← hAe]; exact Or.inr h
  have hS : va_S A s.heap s.heap [] := va_S.rf
  have hP : va_P D vwCl (wM qm cI cZ n S P x) s.heap := hP
  have hl := lv_entry ([.ref (qm 0), .int v]) (n := 2) (Nat.le_of_ble_eq_true rfl)
  rw [lg_entry_eq]
  generalize (lg_sl ([.ref (qm 0), .int v]) ++ List.replicate (2 - (lg_sl ([.ref (qm 0), .int v])).length) Slot.unset).toArray = ls at hl ⊢
  have hl : lv_has ls 2 [(0, .ref (qm 0)), (1, .int v)] := hl
  refine lv_aload_n hx hb dModel_duplicate_0 rfl (lv_at hl 0 rfl) ?_
  refine lv_iload_n hx hb dModel_duplicate_1 rfl (lv_at hl 1 rfl) ?_
  have hPc := hP.sub (ws' := (wM qm cI cZ n S P x)) [0, 1, 2, 3, 4, 5, 6, 7, 8, 9, 10, 11, 12, 13, 14, 15, 16, 17, 18, 19, 20] rfl
  have hDc := hD.sub (ws' := (wM qm cI cZ n S P x)) [0, 1, 2, 3, 4, 5, 6, 7, 8, 9, 10, 11, 12, 13, 14, 15, 16, 17, 18, 19, 20] (by decide) rfl
  refine kx_i (va_runV (As := [.int v]) (rest := []) ⟨hx, hb, hml, hown, hts⟩ ((m_isMessage l D cI cZ qm n S P x v (hn1) (hn5) (hS1) (hS4) (hP5) (hP64) (hIn.1)) s.heap.size) (cwV 1 hts (gV wd510 wd512 sl_Model_isMessage wd7 wd513) rfl rfl rfl (by decide +kernel) ⟨Nat.le_of_ble_eq_true rfl, Nat.le_of_ble_eq_true rfl⟩) ⟨fb_PW, va_recv (q0 := 0) (ci := 5) hK hPc rfl rfl, pre_PW hK hPc hDc hZ⟩ rfl rfl hl.1 rfl (lv_room (Nat.le_of_ble_eq_true rfl)) dModel_duplicate_2 ⟨Nat.zero_le _, Nat.zero_le _⟩) hP hD hS hA [0, 1, 2, 3, 4, 5, 6, 7, 8, 9, 10, 11, 12, 13, 14, 15, 16, 17, 18, 19, 20] [] rfl rfl (by decide) (by decide) (fun r w1 H locs hw hP hD hS => ?_)
  rcases hw with ⟨rfl, h2, rfl⟩ | ⟨rfl, h2, rfl⟩
  · have hP : va_P D vwCl (wM qm cI cZ n S P x) H := hP
    have hD : va_D A (wM qm cI cZ n S P x) := hD
    obtain ⟨j, hj, rfl⟩ := okN_of (show P < 2 ^ 31 by omega) h2.1
    have hk0 : x.1 0 j 0 ≠ 0 := by have h6 := h2.2; rw [ix_nI hj (by omega)] at h6; exact h6
    have hisM : isM P x (nI j) := h2
    refine lv_if_ne (tgt := 10) hx hb dModel_duplicate_5 (by decide) (fun _ => ?_) (fun h9 => absurd h9 (by decide))
    refine lv_aload_n hx hb dModel_duplicate_10 rfl (lv_at hl 0 rfl) ?_
    have hPc := hP.sub (ws' := (wM qm cI cZ n S P x)) [0, 1, 2, 3, 4, 5, 6, 7, 8, 9, 10, 11, 12, 13, 14, 15, 16, 17, 18, 19, 20] rfl
    have hDc := hD.sub (ws' := (wM qm cI cZ n S P x)) [0, 1, 2, 3, 4, 5, 6, 7, 8, 9, 10, 11, 12, 13, 14, 15, 16, 17, 18, 19, 20] (by decide) rfl
    refine kx_i (va_runV (As := []) (rest := []) ⟨hx, hb, hml, hown, hts⟩ ((m_empty l D cI cZ qm n S P x (hn1) (hn5) (hS1) (hS4) (hP5) (hP64)) H.size) (cwV 0 hts (gV wd494 wd496 sl_Model_empty wd7 wd497) rfl rfl rfl (by decide +kernel) ⟨Nat.le_of_ble_eq_true rfl, Nat.le_of_ble_eq_true rfl⟩) ⟨fb_PW, va_recv (q0 := 0) (ci := 5) hK hPc rfl rfl, pre_PW hK hPc hDc hZ⟩ rfl rfl hl.1 rfl (lv_room (Nat.le_of_ble_eq_true rfl)) dModel_duplicate_11 ⟨Nat.zero_le _, Nat.zero_le _⟩) hP hD hS hA [0, 1, 2, 3, 4, 5, 6, 7, 8, 9, 10, 11, 12, 13, 14, 15, 16, 17, 18, 19, 20] [] rfl rfl (by decide) (by decide) (fun r w1 H locs hw hP hD hS => ?_)
    obtain ⟨rfl, rfl⟩ := hw
    have hP : va_P D vwCl (wM qm cI cZ n S P x) H := hP
    have hD : va_D A (wM qm cI cZ n S P x) := hD
    refine lv_if_ne (tgt := 22) hx hb dModel_duplicate_14 (by decide) (fun c14 => ?_) (fun c14 => ?_)
    · have hlt : cntx P x < P := by
        have h7 : cntx P x ≤ P := cnt_le _ _
        by_cases e9 : cntx P x = P
        · exact absurd (by rw [e9, Nat.sub_self]; rfl) c14
        · omega
      refine lv_aload_n hx hb dModel_duplicate_22 rfl (lv_at hl 0 rfl) ?_
      refine lv_aload_n hx hb dModel_duplicate_23 rfl (lv_at hl 0 rfl) ?_
      refine va_get (D := D) (ci := 5) (v := .ref (qm 2)) (C := RModel) (T := TModel) (N := 25) hx hb hts (fun w h => mc (uModel_in w h)) hown hK hP 0 rfl rfl 4 (by decide) (hts _ (mc wd409)) (fun _ h9 => h9) rfl dModel_duplicate_24 ?_
      refine lv_iload_n hx hb dModel_duplicate_27 rfl (lv_at hl 1 rfl) ?_
      refine ka_ld (v := x.1 0 j 0) hx hb hK hP 2 0 rfl rfl (by omega) (by omega) rfl dModel_duplicate_28 ?_
      refine lv_aload_n hx hb dModel_duplicate_29 rfl (lv_at hl 0 rfl) ?_
      refine va_get (D := D) (ci := 5) (v := .ref (qm 3)) (C := RModel) (T := TModel) (N := 25) hx hb hts (fun w h => mc (uModel_in w h)) hown hK hP 0 rfl rfl 5 (by decide) (hts _ (mc wd410)) (fun _ h9 => h9) rfl dModel_duplicate_30 ?_
      refine lv_iload_n hx hb dModel_duplicate_33 rfl (lv_at hl 1 rfl) ?_
      refine ka_ld (v := x.1 0 j 1) hx hb hK hP 3 0 rfl rfl (by omega) (by omega) rfl dModel_duplicate_34 ?_
      refine lv_aload_n hx hb dModel_duplicate_35 rfl (lv_at hl 0 rfl) ?_
      refine va_get (D := D) (ci := 5) (v := .ref (qm 4)) (C := RModel) (T := TModel) (N := 25) hx hb hts (fun w h => mc (uModel_in w h)) hown hK hP 0 rfl rfl 6 (by decide) (hts _ (mc wd411)) (fun _ h9 => h9) rfl dModel_duplicate_36 ?_
      refine lv_iload_n hx hb dModel_duplicate_39 rfl (lv_at hl 1 rfl) ?_
      refine ka_ld (v := x.1 0 j 2) hx hb hK hP 4 0 rfl rfl (by omega) (by omega) rfl dModel_duplicate_40 ?_
      refine lv_aload_n hx hb dModel_duplicate_41 rfl (lv_at hl 0 rfl) ?_
      refine va_get (D := D) (ci := 5) (v := .ref (qm 5)) (C := RModel) (T := TModel) (N := 25) hx hb hts (fun w h => mc (uModel_in w h)) hown hK hP 0 rfl rfl 7 (by decide) (hts _ (mc wd412)) (fun _ h9 => h9) rfl dModel_duplicate_42 ?_
      refine lv_iload_n hx hb dModel_duplicate_45 rfl (lv_at hl 1 rfl) ?_
      refine ka_ld (v := x.1 0 j 3) hx hb hK hP 5 0 rfl rfl (by omega) (by omega) rfl dModel_duplicate_46 ?_
      refine lv_aload_n hx hb dModel_duplicate_47 rfl (lv_at hl 0 rfl) ?_
      refine va_get (D := D) (ci := 5) (v := .ref (qm 6)) (C := RModel) (T := TModel) (N := 25) hx hb hts (fun w h => mc (uModel_in w h)) hown hK hP 0 rfl rfl 8 (by decide) (hts _ (mc wd413)) (fun _ h9 => h9) rfl dModel_duplicate_48 ?_
      refine lv_iload_n hx hb dModel_duplicate_51 rfl (lv_at hl 1 rfl) ?_
      refine ka_ld (v := x.1 0 j 4) hx hb hK hP 6 0 rfl rfl (by omega) (by omega) rfl dModel_duplicate_52 ?_
      refine lv_aload_n hx hb dModel_duplicate_53 rfl (lv_at hl 0 rfl) ?_
      refine va_get (D := D) (ci := 5) (v := .ref (qm 7)) (C := RModel) (T := TModel) (N := 25) hx hb hts (fun w h => mc (uModel_in w h)) hown hK hP 0 rfl rfl 9 (by decide) (hts _ (mc wd414)) (fun _ h9 => h9) rfl dModel_duplicate_54 ?_
      refine lv_iload_n hx hb dModel_duplicate_57 rfl (lv_at hl 1 rfl) ?_
      refine ka_ld (v := x.1 0 j 5) hx hb hK hP 7 0 rfl rfl (by omega) (by omega) rfl dModel_duplicate_58 ?_
      refine lv_aload_n hx hb dModel_duplicate_59 rfl (lv_at hl 0 rfl) ?_
      refine va_get (D := D) (ci := 5) (v := .ref (qm 8)) (C := RModel) (T := TModel) (N := 25) hx hb hts (fun w h => mc (uModel_in w h)) hown hK hP 0 rfl rfl 10 (by decide) (hts _ (mc wd415)) (fun _ h9 => h9) rfl dModel_duplicate_60 ?_
      refine lv_iload_n hx hb dModel_duplicate_63 rfl (lv_at hl 1 rfl) ?_
      refine ka_ld (v := x.1 0 j 6) hx hb hK hP 8 0 rfl rfl (by omega) (by omega) rfl dModel_duplicate_64 ?_
      have hPc := hP.sub (ws' := (wM qm cI cZ n S P x)) [0, 1, 2, 3, 4, 5, 6, 7, 8, 9, 10, 11, 12, 13, 14, 15, 16, 17, 18, 19, 20] rfl
      have hDc := hD.sub (ws' := (wM qm cI cZ n S P x)) [0, 1, 2, 3, 4, 5, 6, 7, 8, 9, 10, 11, 12, 13, 14, 15, 16, 17, 18, 19, 20] (by decide) rfl
      refine kx_i (va_runV (As := [.int (x.1 0 j 0), .int (x.1 0 j 1), .int (x.1 0 j 2), .int (x.1 0 j 3), .int (x.1 0 j 4), .int (x.1 0 j 5), .int (x.1 0 j 6)]) (rest := []) ⟨hx, hb, hml, hown, hts⟩ ((m_send l D cI cZ qm n S P x (x.1 0 j 0) (x.1 0 j 1) (x.1 0 j 2) (x.1 0 j 3) (x.1 0 j 4) (x.1 0 j 5) (x.1 0 j 6) (hn1) (hn5) (hS1) (hS4) (hP5) (hP64) (hIn.1) (hlt)) H.size) (cwV 7 hts (gV wd502 wd504 sl_Model_send wd7 wd505) rfl rfl rfl (by decide +kernel) ⟨Nat.le_of_ble_eq_true rfl, Nat.le_of_ble_eq_true rfl⟩) ⟨fb_PW, va_recv (q0 := 0) (ci := 5) hK hPc rfl rfl, pre_PW hK hPc hDc hZ⟩ rfl rfl hl.1 rfl (lv_room (Nat.le_of_ble_eq_true rfl)) dModel_duplicate_65 ⟨Nat.zero_le _, Nat.zero_le _⟩) hP hD hS hA [0, 1, 2, 3, 4, 5, 6, 7, 8, 9, 10, 11, 12, 13, 14, 15, 16, 17, 18, 19, 20] [] rfl rfl (by decide) (by decide) (fun r w1 H locs hw hP hD hS => ?_)
      obtain ⟨rfl, rfl⟩ := hw
      have hP : va_P D vwCl (wM qm cI cZ n S P (send1 P x (x.1 0 j 0) (x.1 0 j 1) (x.1 0 j 2) (x.1 0 j 3) (x.1 0 j 4) (x.1 0 j 5) (x.1 0 j 6))) H := hP
      have hD : va_D A (wM qm cI cZ n S P (send1 P x (x.1 0 j 0) (x.1 0 j 1) (x.1 0 j 2) (x.1 0 j 3) (x.1 0 j 4) (x.1 0 j 5) (x.1 0 j 6))) := hD
      exact W.iret (v := nI (lst (col (x.1 0) 0) P 0)) hx hb hr (fun t9 ht9 hW9 => ⟨⟨nI (lst (col (x.1 0) 0) P 0), (wM qm cI cZ n S P (send1 P x (x.1 0 j 0) (x.1 0 j 1) (x.1 0 j 2) (x.1 0 j 3) (x.1 0 j 4) (x.1 0 j 5) (x.1 0 j 6))), rfl, fin3 (by unfold sDup; rw [if_pos hisM, if_neg (Nat.ne_of_lt hlt), ix_nI hj (by omega)]; try rfl), by rw [ht9]; exact hP, va_K.moved hW9.alike hK, hD⟩, hS.F ht9⟩) hS.2.2 dModel_duplicate_68
    · have hfull : cntx P x = P := by
        have h7 : cntx P x ≤ P := cnt_le _ _
        have h8 := nI_inj (a := P - cntx P x) (b := 0) (by omega) (by decide) c14
        omega
      refine lv_bipush (v := (-4)) hx hb dModel_duplicate_17 (by decide) ?_
      refine lv_goto (tgt := 68) hx hb dModel_duplicate_19 (by decide) ?_
      exact W.iret (v := (-4)) hx hb hr (fun t9 ht9 hW9 => ⟨⟨(-4), (wM qm cI cZ n S P x), rfl, fin3 (by unfold sDup; rw [if_pos hisM, if_pos hfull]), by rw [ht9]; exact hP, va_K.moved hW9.alike hK, hD⟩, hS.F ht9⟩) hS.2.2 dModel_duplicate_68
  · have hP : va_P D vwCl (wM qm cI cZ n S P x) H := hP
    have hD : va_D A (wM qm cI cZ n S P x) := hD
    refine lv_if_ne (tgt := 10) hx hb dModel_duplicate_5 (by decide) (fun h9 => absurd (by decide) h9) (fun _ => ?_)
    refine lv_iconst (v := (-1)) hx hb dModel_duplicate_8 (by decide) ?_
    exact W.iret (v := (-1)) hx hb hr (fun t9 ht9 hW9 => ⟨⟨(-1), (wM qm cI cZ n S P x), rfl, fin3 (if_neg h2), by rw [ht9]; exact hP, va_K.moved hW9.alike hK, hD⟩, hS.F ht9⟩) hS.2.2 dModel_duplicate_9
theorem dModel_up_0 : decode cModel_up 0 = .ok (.iconst 0, 1) := by decide +kernel
theorem dModel_up_1 : decode cModel_up 1 = .ok (.istore_n 1, 1) := by decide +kernel
theorem dModel_up_2 : decode cModel_up 2 = .ok (.iconst 0, 1) := by decide +kernel
theorem dModel_up_3 : decode cModel_up 3 = .ok (.istore_n 2, 1) := by decide +kernel
theorem dModel_up_4 : decode cModel_up 4 = .ok (.iload_n 2, 1) := by decide +kernel
theorem dModel_up_5 : decode cModel_up 5 = .ok (.aload_n 0, 1) := by decide +kernel
theorem dModel_up_6 : decode cModel_up 6 = .ok (.getfield 71, 3) := by decide +kernel
theorem dModel_up_9 : decode cModel_up 9 = .ok (.if_icmp .ge 26, 3) := by decide +kernel
theorem dModel_up_12 : decode cModel_up 12 = .ok (.aload_n 0, 1) := by decide +kernel
theorem dModel_up_13 : decode cModel_up 13 = .ok (.getfield 7, 3) := by decide +kernel
theorem dModel_up_16 : decode cModel_up 16 = .ok (.iload_n 2, 1) := by decide +kernel
theorem dModel_up_17 : decode cModel_up 17 = .ok (.baload, 1) := by decide +kernel
theorem dModel_up_18 : decode cModel_up 18 = .ok (.ifCond .eq 7, 3) := by decide +kernel
theorem dModel_up_21 : decode cModel_up 21 = .ok (.iload_n 1, 1) := by decide +kernel
theorem dModel_up_22 : decode cModel_up 22 = .ok (.goto 6, 3) := by decide +kernel
theorem dModel_up_25 : decode cModel_up 25 = .ok (.iload_n 1, 1) := by decide +kernel
theorem dModel_up_26 : decode cModel_up 26 = .ok (.iconst 1, 1) := by decide +kernel
theorem dModel_up_27 : decode cModel_up 27 = .ok (.iadd, 1) := by decide +kernel
theorem dModel_up_28 : decode cModel_up 28 = .ok (.istore_n 1, 1) := by decide +kernel
theorem dModel_up_29 : decode cModel_up 29 = .ok (.iinc 2  1, 3) := by decide +kernel
theorem dModel_up_32 : decode cModel_up 32 = .ok (.goto (-28), 3) := by decide +kernel
theorem dModel_up_35 : decode cModel_up 35 = .ok (.iload_n 1, 1) := by decide +kernel
theorem dModel_up_36 : decode cModel_up 36 = .ok (.ireturn, 1) := by decide +kernel
set_option maxRecDepth 100000 in
set_option maxHeartbeats 4000000 in
theorem m_up (l : Launch) (D : va_G) (cI cZ : ClassId) (qm : Nat → Nat) (n : Nat) (S : Nat) (P : Nat) (x : St) (hn1 : 1 ≤ n) (hn5 : n ≤ 5) (hS1 : 1 ≤ S) (hS4 : S ≤ 4) (hP5 : 5 ≤ P) (hP64 : P ≤ 64) : MI l D [(cI, .int), (cZ, .boolean)] yModel_up wsModel_up ({ frames := 0, cells := 0, slots := 0, locals := 0 }) [.ref (qm 0)] (wM qm cI cZ n S P x) (fun r w => r = nI (upn n x) ∧ w = (wM qm cI cZ n S P x)) := by
  intro sz
  refine Met.ofW (cc := cModel_up) (maxL := 3) (ret := (Option.some .int)) (by decide) rfl ?_
  intro p e s m args below meth c s₁ B hml hv
  obtain ⟨rfl, hsz, hP, hK, hD0, hZ⟩ := hv
  have hx := B.exec
  have hb := B.bytes
  have hr := B.returns
  have hts := atoms_spec (ws := wsModel_up) B.pre
  have hown : s.vm.findClass RModel = some m.cls := findClass_of_methodNamed B.named
  have hlocks := B.notSynchronized
  subst hsz
  have hD := hD0.self (sz := s.heap.size)
  generalize hAe : va_A (wM qm cI cZ n S P x) s.heap.size = A at hD ⊢
  have hA : ∀ q : Nat, s.heap.size ≤ q → A q := fun q h => by rw [← hAe]; exact Or.inr h
  have hS : va_S A s.heap s.heap [] := va_S.rf
  have hP : va_P D vwCl (wM qm cI cZ n S P x) s.heap := hP
  have hl := lv_entry ([.ref (qm 0)]) (n := 3) (Nat.le_of_ble_eq_true rfl)
  rw [lg_entry_eq]
  generalize (lg_sl ([.ref (qm 0)]) ++ List.replicate (3 - (lg_sl ([.ref (qm 0)])).length) Slot.unset).toArray = ls at hl ⊢
  have hl : lv_has ls 3 [(0, .ref (qm 0))] := hl
  refine lv_iconst (v := nI 0) hx hb dModel_up_0 (by decide) ?_
  refine lv_istore_n hx hb dModel_up_1 rfl hl (by decide) rfl (fun ls hl => ?_)
  have hl : lv_has ls 3 [(1, .int (nI 0)), (0, .ref (qm 0))] := hl
  refine lv_iconst (v := nI 0) hx hb dModel_up_2 (by decide) ?_
  refine lv_istore_n hx hb dModel_up_3 rfl hl (by decide) rfl (fun ls hl => ?_)
  have hl : lv_has ls 3 [(2, .int (nI 0)), (1, .int (nI 0)), (0, .ref (qm 0))] := hl
  have loop4 : ∀ (d4 i : Nat) (ls : Array Slot) (H : Heap) (locs : List Loc), i + d4 = n → lv_has ls 3 [(2, .int (nI i)), (1, .int (nI (cntE (col (x.1 13) 0) 0 i))), (0, .ref (qm 0))] → va_P D vwCl (wM qm cI cZ n S P x) H → va_D A (wM qm cI cZ n S P x) → va_S A s.heap H locs → W p l e (headSpec wsModel_up { frames := 0, cells := 0, slots := 0, locals := 0 }).room s m [.ref (qm 0)].toArray below meth c H locs 0 0 (MQ below (va_Qi (fun r w => r = nI (upn n x) ∧ w = (wM qm cI cZ n S P x)) (QW D [(cI, .int), (cZ, .boolean)] A) A) [.ref (qm 0)].toArray s 0 0 A) (F0 m 4 ls []) := by
    intro d4
    induction d4 with
    | zero =>
      intro i ls H locs hid4  hl hP hD hS
      refine lv_iload_n hx hb dModel_up_4 rfl (lv_at hl 0 rfl) ?_
      refine lv_aload_n hx hb dModel_up_5 rfl (lv_at hl 2 rfl) ?_
      refine va_get (D := D) (ci := 5) (v := .int (nI n)) (C := RModel) (T := TModel) (N := 25) hx hb hts (fun w h => mc (uModel_in w h)) hown hK hP 0 rfl rfl 0 (by decide) (hts _ (mc wd405)) (fun _ h9 => h9) rfl dModel_up_6 ?_
      refine lv_icmp_ge (tgt := 35) hx hb dModel_up_9 (by decide) (fun _ => ?_) (fun h9 => absurd (nI_le (by omega) (by omega)) h9)
      refine lv_iload_n hx hb dModel_up_35 rfl (lv_at hl 1 rfl) ?_
      have hin : n = i := by omega
      subst hin
      exact W.iret (v := nI (upn n x)) hx hb hr (fun t9 ht9 hW9 => ⟨⟨nI (upn n x), (wM qm cI cZ n S P x), rfl, ⟨rfl, rfl⟩, by rw [ht9]; exact hP, va_K.moved hW9.alike hK, hD⟩, hS.F ht9⟩) hS.2.2 dModel_up_36
    | succ d4 ih4 =>
      intro i ls H locs hid4  hl hP hD hS
      refine lv_iload_n hx hb dModel_up_4 rfl (lv_at hl 0 rfl) ?_
      refine lv_aload_n hx hb dModel_up_5 rfl (lv_at hl 2 rfl) ?_
      refine va_get (D := D) (ci := 5) (v := .int (nI n)) (C := RModel) (T := TModel) (N := 25) hx hb hts (fun w h => mc (uModel_in w h)) hown hK hP 0 rfl rfl 0 (by decide) (hts _ (mc wd405)) (fun _ h9 => h9) rfl dModel_up_6 ?_
      refine lv_icmp_ge (tgt := 35) hx hb dModel_up_9 (by decide) (fun h9 => absurd h9 (nI_ge (by omega) (by omega))) (fun _ => ?_)
      refine lv_aload_n hx hb dModel_up_12 rfl (lv_at hl 2 rfl) ?_
      refine va_get (D := D) (ci := 5) (v := .ref (qm 1)) (C := RModel) (T := TModel) (N := 25) hx hb hts (fun w h => mc (uModel_in w h)) hown hK hP 0 rfl rfl 3 (by decide) (hts _ (mc wd408)) (fun _ h9 => h9) rfl dModel_up_13 ?_
      refine lv_iload_n hx hb dModel_up_16 rfl (lv_at hl 0 rfl) ?_
      refine ka_zld (v := x.1 13 i 0) hx hb hK hP 1 1 rfl rfl (by omega) (by omega) rfl dModel_up_17 ?_
      refine lv_if_eq (tgt := 25) hx hb dModel_up_18 (by decide) (fun c18 => ?_) (fun c18 => ?_)
      · refine lv_iload_n hx hb dModel_up_25 rfl (lv_at hl 1 rfl) ?_
        refine lv_iconst (v := nI 1) hx hb dModel_up_26 (by decide) ?_
        refine lv_iadd hx hb dModel_up_27 ?_
        refine lv_topi (nm_r (nI_add _ _) ?_)
        refine lv_topi (nm_r (ce_f c18) ?_)
        refine lv_istore_n hx hb dModel_up_28 rfl hl (by decide) rfl (fun ls hl => ?_)
        have hl : lv_has ls 3 [(1, .int (nI (cntE (col (x.1 13) 0) 0 (i + 1)))), (2, .int (nI i)), (0, .ref (qm 0))] := hl
        refine lv_iinc (k := 1) (v := nI (i + 1)) hx hb dModel_up_29 hl rfl ((nI_succ _).symm) (by decide) rfl (fun ls hl => ?_)
        have hl : lv_has ls 3 [(2, .int (nI (i + 1))), (1, .int (nI (cntE (col (x.1 13) 0) 0 (i + 1)))), (0, .ref (qm 0))] := hl
        refine lv_goto (tgt := 4) hx hb dModel_up_32 (by decide) ?_
        exact ih4 (i + 1) ls H locs (by omega) hl hP hD hS
      · refine lv_iload_n hx hb dModel_up_21 rfl (lv_at hl 1 rfl) ?_
        refine lv_goto (tgt := 28) hx hb dModel_up_22 (by decide) ?_
        refine lv_topi (nm_r (ce_t c18) ?_)
        refine lv_istore_n hx hb dModel_up_28 rfl hl (by decide) rfl (fun ls hl => ?_)
        have hl : lv_has ls 3 [(1, .int (nI (cntE (col (x.1 13) 0) 0 (i + 1)))), (2, .int (nI i)), (0, .ref (qm 0))] := hl
        refine lv_iinc (k := 1) (v := nI (i + 1)) hx hb dModel_up_29 hl rfl ((nI_succ _).symm) (by decide) rfl (fun ls hl => ?_)
        have hl : lv_has ls 3 [(2, .int (nI (i + 1))), (1, .int (nI (cntE (col (x.1 13) 0) 0 (i + 1)))), (0, .ref (qm 0))] := hl
        refine lv_goto (tgt := 4) hx hb dModel_up_32 (by decide) ?_
        exact ih4 (i + 1) ls H locs (by omega) hl hP hD hS
  exact loop4 n 0 ls s.heap [] (by omega) hl hP hD hS
theorem dModel_crash_0 : decode cModel_crash 0 = .ok (.aload_n 0, 1) := by decide +kernel
theorem dModel_crash_1 : decode cModel_crash 1 = .ok (.iload_n 1, 1) := by decide +kernel
theorem dModel_crash_2 : decode cModel_crash 2 = .ok (.invokevirtual 85, 3) := by decide +kernel
theorem dModel_crash_5 : decode cModel_crash 5 = .ok (.ifCond .eq 12, 3) := by decide +kernel
theorem dModel_crash_8 : decode cModel_crash 8 = .ok (.aload_n 0, 1) := by decide +kernel
theorem dModel_crash_9 : decode cModel_crash 9 = .ok (.getfield 7, 3) := by decide +kernel
theorem dModel_crash_12 : decode cModel_crash 12 = .ok (.iload_n 1, 1) := by decide +kernel
theorem dModel_crash_13 : decode cModel_crash 13 = .ok (.baload, 1) := by decide +kernel
theorem dModel_crash_14 : decode cModel_crash 14 = .ok (.ifCond .eq 5, 3) := by decide +kernel
theorem dModel_crash_17 : decode cModel_crash 17 = .ok (.iconst (-1), 1) := by decide +kernel
theorem dModel_crash_18 : decode cModel_crash 18 = .ok (.ireturn, 1) := by decide +kernel
theorem dModel_crash_19 : decode cModel_crash 19 = .ok (.aload_n 0, 1) := by decide +kernel
theorem dModel_crash_20 : decode cModel_crash 20 = .ok (.getfield 7, 3) := by decide +kernel
theorem dModel_crash_23 : decode cModel_crash 23 = .ok (.iload_n 1, 1) := by decide +kernel
theorem dModel_crash_24 : decode cModel_crash 24 = .ok (.iconst 1, 1) := by decide +kernel
theorem dModel_crash_25 : decode cModel_crash 25 = .ok (.bastore, 1) := by decide +kernel
theorem dModel_crash_26 : decode cModel_crash 26 = .ok (.aload_n 0, 1) := by decide +kernel
theorem dModel_crash_27 : decode cModel_crash 27 = .ok (.invokevirtual 143, 3) := by decide +kernel
theorem dModel_crash_30 : decode cModel_crash 30 = .ok (.ireturn, 1) := by decide +kernel
set_option maxRecDepth 100000 in
set_option maxHeartbeats 4000000 in
theorem m_crash (l : Launch) (D : va_G) (cI cZ : ClassId) (qm : Nat → Nat) (n : Nat) (S : Nat) (P : Nat) (x : St) (v : Int32) (hn1 : 1 ≤ n) (hn5 : n ≤ 5) (hS1 : 1 ≤ S) (hS4 : S ≤ 4) (hP5 : 5 ≤ P) (hP64 : P ≤ 64) : MI l D [(cI, .int), (cZ, .boolean)] yModel_crash wsModel_crash ({ frames := 1, cells := 0, slots := 0, locals := 22 }) [.ref (qm 0), .int v] (wM qm cI cZ n S P x) (fun r w => r = (sCrash n x v).1 ∧ w = (wM qm cI cZ n S P (sCrash n x v).2)) := by
  intro sz
  refine Met.ofW (cc := cModel_crash) (maxL := 2) (ret := (Option.some .int)) (by decide) rfl ?_
  intro p e s m args below meth c s₁ B hml hv
  obtain ⟨rfl, hsz, hP, hK, hD0, hZ⟩ := hv
  have hx := B.exec
  have hb := B.bytes
  have hr := B.returns
  have hts := atoms_spec (ws := wsModel_crash) B.pre
  have hown : s.vm.findClass RModel = some m.cls := findClass_of_methodNamed B.named
  have hlocks := B.notSynchronized
  subst hsz
  have hD := hD0.self (sz := s.heap.size)
  generalize hAe : va_A (wM qm cI cZ n S P x) s.heap.size = A at hD ⊢
  have hA : ∀ q : Nat, s.heap.size ≤ q → A q := fun q h => by rw [← hAe]; exact Or.inr h
  have hS : va_S A s.heap s.heap [] := va_S.rf
  have hP : va_P D vwCl (wM qm cI cZ n S P x) s.heap := hP
  have hl := lv_entry ([.ref (qm 0), .int v]) (n := 2) (Nat.le_of_ble_eq_true rfl)
  rw [lg_entry_eq]
  generalize (lg_sl ([.ref (qm 0), .int v]) ++ List.replicate (2 - (lg_sl ([.ref (qm 0), .int v])).length) Slot.unset).toArray = ls at hl ⊢
  have hl : lv_has ls 2 [(0, .ref (qm 0)), (1, .int v)] := hl
  refine lv_aload_n hx hb dModel_crash_0 rfl (lv_at hl 0 rfl) ?_
  refine lv_iload_n hx hb dModel_crash_1 rfl (lv_at hl 1 rfl) ?_
  have hPc := hP.sub (ws' := (wM qm cI cZ n S P x)) [0, 1, 2, 3, 4, 5, 6, 7, 8, 9, 10, 11, 12, 13, 14, 15, 16, 17, 18, 19, 20] rfl
  have hDc := hD.sub (ws' := (wM qm cI cZ n S P x)) [0, 1, 2, 3, 4, 5, 6, 7, 8, 9, 10, 11, 12, 13, 14, 15, 16, 17, 18, 19, 20] (by decide) rfl
  refine kx_i (va_runV (As := [.int v]) (rest := []) ⟨hx, hb, hml, hown, hts⟩ ((m_isNode l D cI cZ qm n S P x v (hn1) (hn5) (hS1) (hS4) (hP5) (hP64)) s.heap.size) (cwV 1 hts (gV wd486 wd488 sl_Model_isNode wd7 wd489) rfl rfl rfl (by decide +kernel) ⟨Nat.le_of_ble_eq_true rfl, Nat.le_of_ble_eq_true rfl⟩) ⟨fb_PW, va_recv (q0 := 0) (ci := 5) hK hPc rfl rfl, pre_PW hK hPc hDc hZ⟩ rfl rfl hl.1 rfl (lv_room (Nat.le_of_ble_eq_true rfl)) dModel_crash_2 ⟨Nat.zero_le _, Nat.zero_le _⟩) hP hD hS hA [0, 1, 2, 3, 4, 5, 6, 7, 8, 9, 10, 11, 12, 13, 14, 15, 16, 17, 18, 19, 20] [] rfl rfl (by decide) (by decide) (fun r w1 H locs hw hP hD hS => ?_)
  rcases hw with ⟨rfl, h2, rfl⟩ | ⟨rfl, h2, rfl⟩
  · have hP : va_P D vwCl (wM qm cI cZ n S P x) H := hP
    have hD : va_D A (wM qm cI cZ n S P x) := hD
    obtain ⟨a, ha, rfl⟩ := okN_of (show n < 2 ^ 31 by omega) h2
    refine lv_if_eq (tgt := 17) hx hb dModel_crash_5 (by decide) (fun h9 => absurd h9 (by decide)) (fun _ => ?_)
    refine lv_aload_n hx hb dModel_crash_8 rfl (lv_at hl 0 rfl) ?_
    refine va_get (D := D) (ci := 5) (v := .ref (qm 1)) (C := RModel) (T := TModel) (N := 25) hx hb hts (fun w h => mc (uModel_in w h)) hown hK hP 0 rfl rfl 3 (by decide) (hts _ (mc wd408)) (fun _ h9 => h9) rfl dModel_crash_9 ?_
    refine lv_iload_n hx hb dModel_crash_12 rfl (lv_at hl 1 rfl) ?_
    refine ka_zld (v := x.1 13 a 0) hx hb hK hP 1 1 rfl rfl (by omega) (by omega) rfl dModel_crash_13 ?_
    refine lv_if_eq (tgt := 19) hx hb dModel_crash_14 (by decide) (fun c14 => ?_) (fun c14 => ?_)
    · refine lv_aload_n hx hb dModel_crash_19 rfl (lv_at hl 0 rfl) ?_
      refine va_get (D := D) (ci := 5) (v := .ref (qm 1)) (C := RModel) (T := TModel) (N := 25) hx hb hts (fun w h => mc (uModel_in w h)) hown hK hP 0 rfl rfl 3 (by decide) (hts _ (mc wd408)) (fun _ h9 => h9) rfl dModel_crash_20 ?_
      refine lv_iload_n hx hb dModel_crash_23 rfl (lv_at hl 1 rfl) ?_
      refine lv_iconst (v := nI 1) hx hb dModel_crash_24 (by decide) ?_
      refine ka_zst (f' := col (up2 (x.1 13) a 0 (nI 1)) 0) hx hb hK hP hD hS 1 1 rfl rfl (by omega) (by omega) (by rw [show vp_nar .boolean (nI 1) = (nI 1) from rfl]; exact col_up) dModel_crash_25 (fun H locs hP hD hS => ?_)
      have hP : va_P D vwCl (wR qm cI cZ n S P (col (up2 (x.1 13) a 0 (nI 1)) 0) (col (x.1 0) 0) (col (x.1 0) 1) (col (x.1 0) 2) (col (x.1 0) 3) (col (x.1 0) 4) (col (x.1 0) 5) (col (x.1 0) 6) (sq 4 (x.1 2)) (sq 4 (x.1 1)) (sq 4 (x.1 6)) (sq 4 (x.1 3)) (sq 4 (x.1 4)) (sq 4 (x.1 7)) (sq 4 (x.1 8)) (sq 4 (x.1 9)) (sq 4 (x.1 10)) (hrm (x.2 0)) (hrm (x.2 1)) (sq 4 (x.1 11)) (x.1 12 0 0) (x.1 12 0 1)) H := hP
      have hD : va_D A (wR qm cI cZ n S P (col (up2 (x.1 13) a 0 (nI 1)) 0) (col (x.1 0) 0) (col (x.1 0) 1) (col (x.1 0) 2) (col (x.1 0) 3) (col (x.1 0) 4) (col (x.1 0) 5) (col (x.1 0) 6) (sq 4 (x.1 2)) (sq 4 (x.1 1)) (sq 4 (x.1 6)) (sq 4 (x.1 3)) (sq 4 (x.1 4)) (sq 4 (x.1 7)) (sq 4 (x.1 8)) (sq 4 (x.1 9)) (sq 4 (x.1 10)) (hrm (x.2 0)) (hrm (x.2 1)) (sq 4 (x.1 11)) (x.1 12 0 0) (x.1 12 0 1)) := hD
      have hW1 : (wR qm cI cZ n S P (col (up2 (x.1 13) a 0 (nI 1)) 0) (col (x.1 0) 0) (col (x.1 0) 1) (col (x.1 0) 2) (col (x.1 0) 3) (col (x.1 0) 4) (col (x.1 0) 5) (col (x.1 0) 6) (sq 4 (x.1 2)) (sq 4 (x.1 1)) (sq 4 (x.1 6)) (sq 4 (x.1 3)) (sq 4 (x.1 4)) (sq 4 (x.1 7)) (sq 4 (x.1 8)) (sq 4 (x.1 9)) (sq 4 (x.1 10)) (hrm (x.2 0)) (hrm (x.2 1)) (sq 4 (x.1 11)) (x.1 12 0 0) (x.1 12 0 1)) = (wM qm cI cZ n S P (put x 13 a 0 (nI 1))) := rfl
      rw [hW1] at hP hD
      refine lv_aload_n hx hb dModel_crash_26 rfl (lv_at hl 0 rfl) ?_
      have hPc := hP.sub (ws' := (wM qm cI cZ n S P (put x 13 a 0 (nI 1)))) [0, 1, 2, 3, 4, 5, 6, 7, 8, 9, 10, 11, 12, 13, 14, 15, 16, 17, 18, 19, 20] rfl
      have hDc := hD.sub (ws' := (wM qm cI cZ n S P (put x 13 a 0 (nI 1)))) [0, 1, 2, 3, 4, 5, 6, 7, 8, 9, 10, 11, 12, 13, 14, 15, 16, 17, 18, 19, 20] (by decide) rfl
      refine kx_i (va_runV (As := []) (rest := []) ⟨hx, hb, hml, hown, hts⟩ ((m_up l D cI cZ qm n S P (put x 13 a 0 (nI 1)) (hn1) (hn5) (hS1) (hS4) (hP5) (hP64)) H.size) (cwV 0 hts (gV wd566 wd568 sl_Model_up wd7 wd569) rfl rfl rfl (by decide +kernel) ⟨Nat.le_of_ble_eq_true rfl, Nat.le_of_ble_eq_true rfl⟩) ⟨fb_PW, va_recv (q0 := 0) (ci := 5) hK hPc rfl rfl, pre_PW hK hPc hDc hZ⟩ rfl rfl hl.1 rfl (lv_room (Nat.le_of_ble_eq_true rfl)) dModel_crash_27 ⟨Nat.zero_le _, Nat.zero_le _⟩) hP hD hS hA [0, 1, 2, 3, 4, 5, 6, 7, 8, 9, 10, 11, 12, 13, 14, 15, 16, 17, 18, 19, 20] [] rfl rfl (by decide) (by decide) (fun r w1 H locs hw hP hD hS => ?_)
      obtain ⟨rfl, rfl⟩ := hw
      have hP : va_P D vwCl (wM qm cI cZ n S P (put x 13 a 0 (nI 1))) H := hP
      have hD : va_D A (wM qm cI cZ n S P (put x 13 a 0 (nI 1))) := hD
      exact W.iret (v := nI (upn n (put x 13 a 0 (nI 1)))) hx hb hr (fun t9 ht9 hW9 => ⟨⟨nI (upn n (put x 13 a 0 (nI 1))), (wM qm cI cZ n S P (put x 13 a 0 (nI 1))), rfl, fin3 (by unfold sCrash; rw [if_pos ⟨h2, by rw [ix_nI ha (by omega)]; exact c14⟩, ix_nI ha (by omega)]), by rw [ht9]; exact hP, va_K.moved hW9.alike hK, hD⟩, hS.F ht9⟩) hS.2.2 dModel_crash_30
    · refine lv_iconst (v := (-1)) hx hb dModel_crash_17 (by decide) ?_
      exact W.iret (v := (-1)) hx hb hr (fun t9 ht9 hW9 => ⟨⟨(-1), (wM qm cI cZ n S P x), rfl, fin3 (if_neg (fun h => c14 (by have h7 := h.2; rw [ix_nI ha (by omega)] at h7; exact h7))), by rw [ht9]; exact hP, va_K.moved hW9.alike hK, hD⟩, hS.F ht9⟩) hS.2.2 dModel_crash_18
  · have hP : va_P D vwCl (wM qm cI cZ n S P x) H := hP
    have hD : va_D A (wM qm cI cZ n S P x) := hD
    refine lv_if_eq (tgt := 17) hx hb dModel_crash_5 (by decide) (fun _ => ?_) (fun h9 => absurd (by decide) h9)
    refine lv_iconst (v := (-1)) hx hb dModel_crash_17 (by decide) ?_
    exact W.iret (v := (-1)) hx hb hr (fun t9 ht9 hW9 => ⟨⟨(-1), (wM qm cI cZ n S P x), rfl, fin3 (if_neg (fun h => h2 h.1)), by rw [ht9]; exact hP, va_K.moved hW9.alike hK, hD⟩, hS.F ht9⟩) hS.2.2 dModel_crash_18
theorem dModel_restart_0 : decode cModel_restart 0 = .ok (.aload_n 0, 1) := by decide +kernel
theorem dModel_restart_1 : decode cModel_restart 1 = .ok (.iload_n 1, 1) := by decide +kernel
theorem dModel_restart_2 : decode cModel_restart 2 = .ok (.invokevirtual 85, 3) := by decide +kernel
theorem dModel_restart_5 : decode cModel_restart 5 = .ok (.ifCond .eq 12, 3) := by decide +kernel
theorem dModel_restart_8 : decode cModel_restart 8 = .ok (.aload_n 0, 1) := by decide +kernel
theorem dModel_restart_9 : decode cModel_restart 9 = .ok (.getfield 7, 3) := by decide +kernel
theorem dModel_restart_12 : decode cModel_restart 12 = .ok (.iload_n 1, 1) := by decide +kernel
theorem dModel_restart_13 : decode cModel_restart 13 = .ok (.baload, 1) := by decide +kernel
theorem dModel_restart_14 : decode cModel_restart 14 = .ok (.ifCond .ne 5, 3) := by decide +kernel
theorem dModel_restart_17 : decode cModel_restart 17 = .ok (.iconst (-1), 1) := by decide +kernel
theorem dModel_restart_18 : decode cModel_restart 18 = .ok (.ireturn, 1) := by decide +kernel
theorem dModel_restart_19 : decode cModel_restart 19 = .ok (.aload_n 0, 1) := by decide +kernel
theorem dModel_restart_20 : decode cModel_restart 20 = .ok (.getfield 7, 3) := by decide +kernel
theorem dModel_restart_23 : decode cModel_restart 23 = .ok (.iload_n 1, 1) := by decide +kernel
theorem dModel_restart_24 : decode cModel_restart 24 = .ok (.iconst 0, 1) := by decide +kernel
theorem dModel_restart_25 : decode cModel_restart 25 = .ok (.bastore, 1) := by decide +kernel
theorem dModel_restart_26 : decode cModel_restart 26 = .ok (.iconst 0, 1) := by decide +kernel
theorem dModel_restart_27 : decode cModel_restart 27 = .ok (.istore_n 2, 1) := by decide +kernel
theorem dModel_restart_28 : decode cModel_restart 28 = .ok (.iload_n 2, 1) := by decide +kernel
theorem dModel_restart_29 : decode cModel_restart 29 = .ok (.iconst 4, 1) := by decide +kernel
theorem dModel_restart_30 : decode cModel_restart 30 = .ok (.if_icmp .ge 50, 3) := by decide +kernel
theorem dModel_restart_33 : decode cModel_restart 33 = .ok (.iconst 4, 1) := by decide +kernel
theorem dModel_restart_34 : decode cModel_restart 34 = .ok (.iload_n 1, 1) := by decide +kernel
theorem dModel_restart_35 : decode cModel_restart 35 = .ok (.imul, 1) := by decide +kernel
theorem dModel_restart_36 : decode cModel_restart 36 = .ok (.iload_n 2, 1) := by decide +kernel
theorem dModel_restart_37 : decode cModel_restart 37 = .ok (.iadd, 1) := by decide +kernel
theorem dModel_restart_38 : decode cModel_restart 38 = .ok (.istore_n 3, 1) := by decide +kernel
theorem dModel_restart_39 : decode cModel_restart 39 = .ok (.aload_n 0, 1) := by decide +kernel
theorem dModel_restart_40 : decode cModel_restart 40 = .ok (.getfield 38, 3) := by decide +kernel
theorem dModel_restart_43 : decode cModel_restart 43 = .ok (.iload_n 3, 1) := by decide +kernel
theorem dModel_restart_44 : decode cModel_restart 44 = .ok (.iconst 0, 1) := by decide +kernel
theorem dModel_restart_45 : decode cModel_restart 45 = .ok (.iastore, 1) := by decide +kernel
theorem dModel_restart_46 : decode cModel_restart 46 = .ok (.aload_n 0, 1) := by decide +kernel
theorem dModel_restart_47 : decode cModel_restart 47 = .ok (.getfield 44, 3) := by decide +kernel
theorem dModel_restart_50 : decode cModel_restart 50 = .ok (.iload_n 3, 1) := by decide +kernel
theorem dModel_restart_51 : decode cModel_restart 51 = .ok (.iconst 0, 1) := by decide +kernel
theorem dModel_restart_52 : decode cModel_restart 52 = .ok (.iastore, 1) := by decide +kernel
theorem dModel_restart_53 : decode cModel_restart 53 = .ok (.aload_n 0, 1) := by decide +kernel
theorem dModel_restart_54 : decode cModel_restart 54 = .ok (.getfield 47, 3) := by decide +kernel
theorem dModel_restart_57 : decode cModel_restart 57 = .ok (.iload_n 3, 1) := by decide +kernel
theorem dModel_restart_58 : decode cModel_restart 58 = .ok (.iconst (-1), 1) := by decide +kernel
theorem dModel_restart_59 : decode cModel_restart 59 = .ok (.iastore, 1) := by decide +kernel
theorem dModel_restart_60 : decode cModel_restart 60 = .ok (.aload_n 0, 1) := by decide +kernel
theorem dModel_restart_61 : decode cModel_restart 61 = .ok (.getfield 50, 3) := by decide +kernel
theorem dModel_restart_64 : decode cModel_restart 64 = .ok (.iload_n 3, 1) := by decide +kernel
theorem dModel_restart_65 : decode cModel_restart 65 = .ok (.iconst 0, 1) := by decide +kernel
theorem dModel_restart_66 : decode cModel_restart 66 = .ok (.iastore, 1) := by decide +kernel
theorem dModel_restart_67 : decode cModel_restart 67 = .ok (.aload_n 0, 1) := by decide +kernel
theorem dModel_restart_68 : decode cModel_restart 68 = .ok (.getfield 68, 3) := by decide +kernel
theorem dModel_restart_71 : decode cModel_restart 71 = .ok (.iload_n 3, 1) := by decide +kernel
theorem dModel_restart_72 : decode cModel_restart 72 = .ok (.iconst 0, 1) := by decide +kernel
theorem dModel_restart_73 : decode cModel_restart 73 = .ok (.iastore, 1) := by decide +kernel
theorem dModel_restart_74 : decode cModel_restart 74 = .ok (.iinc 2  1, 3) := by decide +kernel
theorem dModel_restart_77 : decode cModel_restart 77 = .ok (.goto (-49), 3) := by decide +kernel
theorem dModel_restart_80 : decode cModel_restart 80 = .ok (.iconst 0, 1) := by decide +kernel
theorem dModel_restart_81 : decode cModel_restart 81 = .ok (.istore_n 2, 1) := by decide +kernel
theorem dModel_restart_82 : decode cModel_restart 82 = .ok (.iload_n 2, 1) := by decide +kernel
theorem dModel_restart_83 : decode cModel_restart 83 = .ok (.bipush 20, 2) := by decide +kernel
theorem dModel_restart_85 : decode cModel_restart 85 = .ok (.if_icmp .ge 33, 3) := by decide +kernel
theorem dModel_restart_88 : decode cModel_restart 88 = .ok (.aload_n 0, 1) := by decide +kernel
theorem dModel_restart_89 : decode cModel_restart 89 = .ok (.getfield 62, 3) := by decide +kernel
theorem dModel_restart_92 : decode cModel_restart 92 = .ok (.bipush 20, 2) := by decide +kernel
theorem dModel_restart_94 : decode cModel_restart 94 = .ok (.iload_n 1, 1) := by decide +kernel
theorem dModel_restart_95 : decode cModel_restart 95 = .ok (.imul, 1) := by decide +kernel
theorem dModel_restart_96 : decode cModel_restart 96 = .ok (.iload_n 2, 1) := by decide +kernel
theorem dModel_restart_97 : decode cModel_restart 97 = .ok (.iadd, 1) := by decide +kernel
theorem dModel_restart_98 : decode cModel_restart 98 = .ok (.iconst (-1), 1) := by decide +kernel
theorem dModel_restart_99 : decode cModel_restart 99 = .ok (.iastore, 1) := by decide +kernel
theorem dModel_restart_100 : decode cModel_restart 100 = .ok (.aload_n 0, 1) := by decide +kernel
theorem dModel_restart_101 : decode cModel_restart 101 = .ok (.getfield 65, 3) := by decide +kernel
theorem dModel_restart_104 : decode cModel_restart 104 = .ok (.bipush 20, 2) := by decide +kernel
theorem dModel_restart_106 : decode cModel_restart 106 = .ok (.iload_n 1, 1) := by decide +kernel
theorem dModel_restart_107 : decode cModel_restart 107 = .ok (.imul, 1) := by decide +kernel
theorem dModel_restart_108 : decode cModel_restart 108 = .ok (.iload_n 2, 1) := by decide +kernel
theorem dModel_restart_109 : decode cModel_restart 109 = .ok (.iadd, 1) := by decide +kernel
theorem dModel_restart_110 : decode cModel_restart 110 = .ok (.iconst 0, 1) := by decide +kernel
theorem dModel_restart_111 : decode cModel_restart 111 = .ok (.iastore, 1) := by decide +kernel
theorem dModel_restart_112 : decode cModel_restart 112 = .ok (.iinc 2  1, 3) := by decide +kernel
theorem dModel_restart_115 : decode cModel_restart 115 = .ok (.goto (-33), 3) := by decide +kernel
theorem dModel_restart_118 : decode cModel_restart 118 = .ok (.aload_n 0, 1) := by decide +kernel
theorem dModel_restart_119 : decode cModel_restart 119 = .ok (.invokevirtual 143, 3) := by decide +kernel
theorem dModel_restart_122 : decode cModel_restart 122 = .ok (.ireturn, 1) := by decide +kernel
set_option maxRecDepth 100000 in
set_option maxHeartbeats 4000000 in
theorem m_restart (l : Launch) (D : va_G) (cI cZ : ClassId) (qm : Nat → Nat) (n : Nat) (S : Nat) (P : Nat) (x : St) (v : Int32) (hn1 : 1 ≤ n) (hn5 : n ≤ 5) (hS1 : 1 ≤ S) (hS4 : S ≤ 4) (hP5 : 5 ≤ P) (hP64 : P ≤ 64) : MI l D [(cI, .int), (cZ, .boolean)] yModel_restart wsModel_restart ({ frames := 1, cells := 0, slots := 0, locals := 22 }) [.ref (qm 0), .int v] (wM qm cI cZ n S P x) (fun r w => r = (sRest n x v).1 ∧ w = (wM qm cI cZ n S P (sRest n x v).2)) := by
  intro sz
  refine Met.ofW (cc := cModel_restart) (maxL := 4) (ret := (Option.some .int)) (by decide) rfl ?_
  intro p e s m args below meth c s₁ B hml hv
  obtain ⟨rfl, hsz, hP, hK, hD0, hZ⟩ := hv
  have hx := B.exec
  have hb := B.bytes
  have hr := B.returns
  have hts := atoms_spec (ws := wsModel_restart) B.pre
  have hown : s.vm.findClass RModel = some m.cls := findClass_of_methodNamed B.named
  have hlocks := B.notSynchronized
  subst hsz
  have hD := hD0.self (sz := s.heap.size)
  generalize hAe : va_A (wM qm cI cZ n S P x) s.heap.size = A at hD ⊢
  have hA : ∀ q : Nat, s.heap.size ≤ q → A q := fun q h => by rw [← hAe]; exact Or.inr h
  have hS : va_S A s.heap s.heap [] := va_S.rf
  have hP : va_P D vwCl (wM qm cI cZ n S P x) s.heap := hP
  have hl := lv_entry ([.ref (qm 0), .int v]) (n := 4) (Nat.le_of_ble_eq_true rfl)
  rw [lg_entry_eq]
  generalize (lg_sl ([.ref (qm 0), .int v]) ++ List.replicate (4 - (lg_sl ([.ref (qm 0), .int v])).length) Slot.unset).toArray = ls at hl ⊢
  have hl : lv_has ls 4 [(0, .ref (qm 0)), (1, .int v)] := hl
  refine lv_aload_n hx hb dModel_restart_0 rfl (lv_at hl 0 rfl) ?_
  refine lv_iload_n hx hb dModel_restart_1 rfl (lv_at hl 1 rfl) ?_
  have hPc := hP.sub (ws' := (wM qm cI cZ n S P x)) [0, 1, 2, 3, 4, 5, 6, 7, 8, 9, 10, 11, 12, 13, 14, 15, 16, 17, 18, 19, 20] rfl
  have hDc := hD.sub (ws' := (wM qm cI cZ n S P x)) [0, 1, 2, 3, 4, 5, 6, 7, 8, 9, 10, 11, 12, 13, 14, 15, 16, 17, 18, 19, 20] (by decide) rfl
  refine kx_i (va_runV (As := [.int v]) (rest := []) ⟨hx, hb, hml, hown, hts⟩ ((m_isNode l D cI cZ qm n S P x v (hn1) (hn5) (hS1) (hS4) (hP5) (hP64)) s.heap.size) (cwV 1 hts (gV wd486 wd488 sl_Model_isNode wd7 wd489) rfl rfl rfl (by decide +kernel) ⟨Nat.le_of_ble_eq_true rfl, Nat.le_of_ble_eq_true rfl⟩) ⟨fb_PW, va_recv (q0 := 0) (ci := 5) hK hPc rfl rfl, pre_PW hK hPc hDc hZ⟩ rfl rfl hl.1 rfl (lv_room (Nat.le_of_ble_eq_true rfl)) dModel_restart_2 ⟨Nat.zero_le _, Nat.zero_le _⟩) hP hD hS hA [0, 1, 2, 3, 4, 5, 6, 7, 8, 9, 10, 11, 12, 13, 14, 15, 16, 17, 18, 19, 20] [] rfl rfl (by decide) (by decide) (fun r w1 H locs hw hP hD hS => ?_)
  rcases hw with ⟨rfl, h2, rfl⟩ | ⟨rfl, h2, rfl⟩
  · have hP : va_P D vwCl (wM qm cI cZ n S P x) H := hP
    have hD : va_D A (wM qm cI cZ n S P x) := hD
    obtain ⟨a, ha, rfl⟩ := okN_of (show n < 2 ^ 31 by omega) h2
    refine lv_if_eq (tgt := 17) hx hb dModel_restart_5 (by decide) (fun h9 => absurd h9 (by decide)) (fun _ => ?_)
    refine lv_aload_n hx hb dModel_restart_8 rfl (lv_at hl 0 rfl) ?_
    refine va_get (D := D) (ci := 5) (v := .ref (qm 1)) (C := RModel) (T := TModel) (N := 25) hx hb hts (fun w h => mc (uModel_in w h)) hown hK hP 0 rfl rfl 3 (by decide) (hts _ (mc wd408)) (fun _ h9 => h9) rfl dModel_restart_9 ?_
    refine lv_iload_n hx hb dModel_restart_12 rfl (lv_at hl 1 rfl) ?_
    refine ka_zld (v := x.1 13 a 0) hx hb hK hP 1 1 rfl rfl (by omega) (by omega) rfl dModel_restart_13 ?_
    refine lv_if_ne (tgt := 19) hx hb dModel_restart_14 (by decide) (fun c14 => ?_) (fun c14 => ?_)
    · refine lv_aload_n hx hb dModel_restart_19 rfl (lv_at hl 0 rfl) ?_
      refine va_get (D := D) (ci := 5) (v := .ref (qm 1)) (C := RModel) (T := TModel) (N := 25) hx hb hts (fun w h => mc (uModel_in w h)) hown hK hP 0 rfl rfl 3 (by decide) (hts _ (mc wd408)) (fun _ h9 => h9) rfl dModel_restart_20 ?_
      refine lv_iload_n hx hb dModel_restart_23 rfl (lv_at hl 1 rfl) ?_
      refine lv_iconst (v := nI 0) hx hb dModel_restart_24 (by decide) ?_
      refine ka_zst (f' := col (up2 (x.1 13) a 0 (nI 0)) 0) hx hb hK hP hD hS 1 1 rfl rfl (by omega) (by omega) (by rw [show vp_nar .boolean (nI 0) = (nI 0) from rfl]; exact col_up) dModel_restart_25 (fun H locs hP hD hS => ?_)
      have hP : va_P D vwCl (wR qm cI cZ n S P (col (up2 (x.1 13) a 0 (nI 0)) 0) (col (x.1 0) 0) (col (x.1 0) 1) (col (x.1 0) 2) (col (x.1 0) 3) (col (x.1 0) 4) (col (x.1 0) 5) (col (x.1 0) 6) (sq 4 (x.1 2)) (sq 4 (x.1 1)) (sq 4 (x.1 6)) (sq 4 (x.1 3)) (sq 4 (x.1 4)) (sq 4 (x.1 7)) (sq 4 (x.1 8)) (sq 4 (x.1 9)) (sq 4 (x.1 10)) (hrm (x.2 0)) (hrm (x.2 1)) (sq 4 (x.1 11)) (x.1 12 0 0) (x.1 12 0 1)) H := hP
      have hD : va_D A (wR qm cI cZ n S P (col (up2 (x.1 13) a 0 (nI 0)) 0) (col (x.1 0) 0) (col (x.1 0) 1) (col (x.1 0) 2) (col (x.1 0) 3) (col (x.1 0) 4) (col (x.1 0) 5) (col (x.1 0) 6) (sq 4 (x.1 2)) (sq 4 (x.1 1)) (sq 4 (x.1 6)) (sq 4 (x.1 3)) (sq 4 (x.1 4)) (sq 4 (x.1 7)) (sq 4 (x.1 8)) (sq 4 (x.1 9)) (sq 4 (x.1 10)) (hrm (x.2 0)) (hrm (x.2 1)) (sq 4 (x.1 11)) (x.1 12 0 0) (x.1 12 0 1)) := hD
      have hW1 : (wR qm cI cZ n S P (col (up2 (x.1 13) a 0 (nI 0)) 0) (col (x.1 0) 0) (col (x.1 0) 1) (col (x.1 0) 2) (col (x.1 0) 3) (col (x.1 0) 4) (col (x.1 0) 5) (col (x.1 0) 6) (sq 4 (x.1 2)) (sq 4 (x.1 1)) (sq 4 (x.1 6)) (sq 4 (x.1 3)) (sq 4 (x.1 4)) (sq 4 (x.1 7)) (sq 4 (x.1 8)) (sq 4 (x.1 9)) (sq 4 (x.1 10)) (hrm (x.2 0)) (hrm (x.2 1)) (sq 4 (x.1 11)) (x.1 12 0 0) (x.1 12 0 1)) = (wM qm cI cZ n S P (rst (put x 13 a 0 (nI 0)) a 0 0)) := by rw [rst_0]; rfl
      rw [hW1] at hP hD
      refine lv_iconst (v := nI 0) hx hb dModel_restart_26 (by decide) ?_
      refine lv_istore_n hx hb dModel_restart_27 rfl hl (by decide) rfl (fun ls hl => ?_)
      have hl : lv_has ls 4 [(2, .int (nI 0)), (0, .ref (qm 0)), (1, .int (nI a))] := hl
      have loop28 : ∀ (d28 i : Nat) (ls : Array Slot) (H : Heap) (locs : List Loc), i + d28 = 4 → lv_has ls 4 [(2, .int (nI i)), (0, .ref (qm 0)), (1, .int (nI a))] → va_P D vwCl (wM qm cI cZ n S P (rst (put x 13 a 0 (nI 0)) a i 0)) H → va_D A (wM qm cI cZ n S P (rst (put x 13 a 0 (nI 0)) a i 0)) → va_S A s.heap H locs → W p l e (headSpec wsModel_restart { frames := 1, cells := 0, slots := 0, locals := 22 }).room s m [.ref (qm 0), .int (nI a)].toArray below meth c H locs 0 0 (MQ below (va_Qi (fun r w => r = (sRest n x (nI a)).1 ∧ w = (wM qm cI cZ n S P (sRest n x (nI a)).2)) (QW D [(cI, .int), (cZ, .boolean)] A) A) [.ref (qm 0), .int (nI a)].toArray s 0 0 A) (F0 m 28 ls []) := by
        intro d28
        induction d28 with
        | zero =>
          intro i ls H locs hid28  hl hP hD hS
          refine lv_iload_n hx hb dModel_restart_28 rfl (lv_at hl 0 rfl) ?_
          refine lv_iconst (v := nI 4) hx hb dModel_restart_29 (by decide) ?_
          refine lv_icmp_ge (tgt := 80) hx hb dModel_restart_30 (by decide) (fun _ => ?_) (fun h9 => absurd (nI_le (by omega) (by omega)) h9)
          have hin : i = 4 := by omega
          subst hin
          refine lv_iconst (v := nI 0) hx hb dModel_restart_80 (by decide) ?_
          refine lv_istore_n hx hb dModel_restart_81 rfl hl (by decide) rfl (fun ls hl => ?_)
          have hl : lv_has ls 4 [(2, .int (nI 0)), (0, .ref (qm 0)), (1, .int (nI a))] := hl
          have loop82 : ∀ (d82 i : Nat) (ls : Array Slot) (H : Heap) (locs : List Loc), i + d82 = 20 → lv_has ls 4 [(2, .int (nI i)), (0, .ref (qm 0)), (1, .int (nI a))] → va_P D vwCl (wM qm cI cZ n S P (rst (put x 13 a 0 (nI 0)) a 4 i)) H → va_D A (wM qm cI cZ n S P (rst (put x 13 a 0 (nI 0)) a 4 i)) → va_S A s.heap H locs → W p l e (headSpec wsModel_restart { frames := 1, cells := 0, slots := 0, locals := 22 }).room s m [.ref (qm 0), .int (nI a)].toArray below meth c H locs 0 0 (MQ below (va_Qi (fun r w => r = (sRest n x (nI a)).1 ∧ w = (wM qm cI cZ n S P (sRest n x (nI a)).2)) (QW D [(cI, .int), (cZ, .boolean)] A) A) [.ref (qm 0), .int (nI a)].toArray s 0 0 A) (F0 m 82 ls []) := by
            intro d82
            induction d82 with
            | zero =>
              intro i ls H locs hid82  hl hP hD hS
              refine lv_iload_n hx hb dModel_restart_82 rfl (lv_at hl 0 rfl) ?_
              refine lv_bipush (v := nI 20) hx hb dModel_restart_83 (by decide) ?_
              refine lv_icmp_ge (tgt := 118) hx hb dModel_restart_85 (by decide) (fun _ => ?_) (fun h9 => absurd (nI_le (by omega) (by omega)) h9)
              have hin : i = 20 := by omega
              subst hin
              have hW2 : (wM qm cI cZ n S P (rst (put x 13 a 0 (nI 0)) a 4 20)) = (wM qm cI cZ n S P (sBack (put x 13 a 0 (nI 0)) a)) := rst_end
              rw [hW2] at hP hD
              refine lv_aload_n hx hb dModel_restart_118 rfl (lv_at hl 1 rfl) ?_
              have hPc := hP.sub (ws' := (wM qm cI cZ n S P (sBack (put x 13 a 0 (nI 0)) a))) [0, 1, 2, 3, 4, 5, 6, 7, 8, 9, 10, 11, 12, 13, 14, 15, 16, 17, 18, 19, 20] rfl
              have hDc := hD.sub (ws' := (wM qm cI cZ n S P (sBack (put x 13 a 0 (nI 0)) a))) [0, 1, 2, 3, 4, 5, 6, 7, 8, 9, 10, 11, 12, 13, 14, 15, 16, 17, 18, 19, 20] (by decide) rfl
              refine kx_i (va_runV (As := []) (rest := []) ⟨hx, hb, hml, hown, hts⟩ ((m_up l D cI cZ qm n S P (sBack (put x 13 a 0 (nI 0)) a) (hn1) (hn5) (hS1) (hS4) (hP5) (hP64)) H.size) (cwV 0 hts (gV wd566 wd568 sl_Model_up wd7 wd569) rfl rfl rfl (by decide +kernel) ⟨Nat.le_of_ble_eq_true rfl, Nat.le_of_ble_eq_true rfl⟩) ⟨fb_PW, va_recv (q0 := 0) (ci := 5) hK hPc rfl rfl, pre_PW hK hPc hDc hZ⟩ rfl rfl hl.1 rfl (lv_room (Nat.le_of_ble_eq_true rfl)) dModel_restart_119 ⟨Nat.zero_le _, Nat.zero_le _⟩) hP hD hS hA [0, 1, 2, 3, 4, 5, 6, 7, 8, 9, 10, 11, 12, 13, 14, 15, 16, 17, 18, 19, 20] [] rfl rfl (by decide) (by decide) (fun r w1 H locs hw hP hD hS => ?_)
              obtain ⟨rfl, rfl⟩ := hw
              have hP : va_P D vwCl (wM qm cI cZ n S P (sBack (put x 13 a 0 (nI 0)) a)) H := hP
              have hD : va_D A (wM qm cI cZ n S P (sBack (put x 13 a 0 (nI 0)) a)) := hD
              exact W.iret (v := nI (upn n (sBack (put x 13 a 0 (nI 0)) a))) hx hb hr (fun t9 ht9 hW9 => ⟨⟨nI (upn n (sBack (put x 13 a 0 (nI 0)) a)), (wM qm cI cZ n S P (sBack (put x 13 a 0 (nI 0)) a)), rfl, fin3 (by unfold sRest; rw [if_pos ⟨h2, by rw [ix_nI ha (by omega)]; exact c14⟩, ix_nI ha (by omega)]; unfold upn; rw [back_13]), by rw [ht9]; exact hP, va_K.moved hW9.alike hK, hD⟩, hS.F ht9⟩) hS.2.2 dModel_restart_122
            | succ d82 ih82 =>
              intro i ls H locs hid82  hl hP hD hS
              refine lv_iload_n hx hb dModel_restart_82 rfl (lv_at hl 0 rfl) ?_
              refine lv_bipush (v := nI 20) hx hb dModel_restart_83 (by decide) ?_
              refine lv_icmp_ge (tgt := 118) hx hb dModel_restart_85 (by decide) (fun h9 => absurd h9 (nI_ge (by omega) (by omega))) (fun _ => ?_)
              refine lv_aload_n hx hb dModel_restart_88 rfl (lv_at hl 1 rfl) ?_
              refine va_get (D := D) (ci := 5) (v := .ref (qm 18)) (C := RModel) (T := TModel) (N := 25) hx hb hts (fun w h => mc (uModel_in w h)) hown hK hP 0 rfl rfl 20 (by decide) (hts _ (mc wd425)) (fun _ h9 => h9) rfl dModel_restart_89 ?_
              refine lv_bipush (v := nI 20) hx hb dModel_restart_92 (by decide) ?_
              refine lv_iload_n hx hb dModel_restart_94 rfl (lv_at hl 2 rfl) ?_
              refine lv_imul hx hb dModel_restart_95 ?_
              refine lv_topi (nm_r (pk_mul _ _) ?_)
              refine lv_iload_n hx hb dModel_restart_96 rfl (lv_at hl 0 rfl) ?_
              refine lv_iadd hx hb dModel_restart_97 ?_
              refine lv_topi (nm_r (nI_add _ _) ?_)
              refine lv_iconst (v := (-1)) hx hb dModel_restart_98 (by decide) ?_
              refine ka_st (f' := upd (hrm ((rst (put x 13 a 0 (nI 0)) a 4 i).2 0)) (20 * a + i) (-1)) hx hb hK hP hD hS 18 0 rfl rfl (by omega) (by omega) rfl dModel_restart_99 (fun H locs hP hD hS => ?_)
              have hP : va_P D vwCl (wR qm cI cZ n S P (col ((rst (put x 13 a 0 (nI 0)) a 4 i).1 13) 0) (col ((rst (put x 13 a 0 (nI 0)) a 4 i).1 0) 0) (col ((rst (put x 13 a 0 (nI 0)) a 4 i).1 0) 1) (col ((rst (put x 13 a 0 (nI 0)) a 4 i).1 0) 2) (col ((rst (put x 13 a 0 (nI 0)) a 4 i).1 0) 3) (col ((rst (put x 13 a 0 (nI 0)) a 4 i).1 0) 4) (col ((rst (put x 13 a 0 (nI 0)) a 4 i).1 0) 5) (col ((rst (put x 13 a 0 (nI 0)) a 4 i).1 0) 6) (sq 4 ((rst (put x 13 a 0 (nI 0)) a 4 i).1 2)) (sq 4 ((rst (put x 13 a 0 (nI 0)) a 4 i).1 1)) (sq 4 ((rst (put x 13 a 0 (nI 0)) a 4 i).1 6)) (sq 4 ((rst (put x 13 a 0 (nI 0)) a 4 i).1 3)) (sq 4 ((rst (put x 13 a 0 (nI 0)) a 4 i).1 4)) (sq 4 ((rst (put x 13 a 0 (nI 0)) a 4 i).1 7)) (sq 4 ((rst (put x 13 a 0 (nI 0)) a 4 i).1 8)) (sq 4 ((rst (put x 13 a 0 (nI 0)) a 4 i).1 9)) (sq 4 ((rst (put x 13 a 0 (nI 0)) a 4 i).1 10)) (upd (hrm ((rst (put x 13 a 0 (nI 0)) a 4 i).2 0)) (20 * a + i) (-1)) (hrm ((rst (put x 13 a 0 (nI 0)) a 4 i).2 1)) (sq 4 ((rst (put x 13 a 0 (nI 0)) a 4 i).1 11)) ((rst (put x 13 a 0 (nI 0)) a 4 i).1 12 0 0) ((rst (put x 13 a 0 (nI 0)) a 4 i).1 12 0 1)) H := hP
              have hD : va_D A (wR qm cI cZ n S P (col ((rst (put x 13 a 0 (nI 0)) a 4 i).1 13) 0) (col ((rst (put x 13 a 0 (nI 0)) a 4 i).1 0) 0) (col ((rst (put x 13 a 0 (nI 0)) a 4 i).1 0) 1) (col ((rst (put x 13 a 0 (nI 0)) a 4 i).1 0) 2) (col ((rst (put x 13 a 0 (nI 0)) a 4 i).1 0) 3) (col ((rst (put x 13 a 0 (nI 0)) a 4 i).1 0) 4) (col ((rst (put x 13 a 0 (nI 0)) a 4 i).1 0) 5) (col ((rst (put x 13 a 0 (nI 0)) a 4 i).1 0) 6) (sq 4 ((rst (put x 13 a 0 (nI 0)) a 4 i).1 2)) (sq 4 ((rst (put x 13 a 0 (nI 0)) a 4 i).1 1)) (sq 4 ((rst (put x 13 a 0 (nI 0)) a 4 i).1 6)) (sq 4 ((rst (put x 13 a 0 (nI 0)) a 4 i).1 3)) (sq 4 ((rst (put x 13 a 0 (nI 0)) a 4 i).1 4)) (sq 4 ((rst (put x 13 a 0 (nI 0)) a 4 i).1 7)) (sq 4 ((rst (put x 13 a 0 (nI 0)) a 4 i).1 8)) (sq 4 ((rst (put x 13 a 0 (nI 0)) a 4 i).1 9)) (sq 4 ((rst (put x 13 a 0 (nI 0)) a 4 i).1 10)) (upd (hrm ((rst (put x 13 a 0 (nI 0)) a 4 i).2 0)) (20 * a + i) (-1)) (hrm ((rst (put x 13 a 0 (nI 0)) a 4 i).2 1)) (sq 4 ((rst (put x 13 a 0 (nI 0)) a 4 i).1 11)) ((rst (put x 13 a 0 (nI 0)) a 4 i).1 12 0 0) ((rst (put x 13 a 0 (nI 0)) a 4 i).1 12 0 1)) := hD
              refine lv_aload_n hx hb dModel_restart_100 rfl (lv_at hl 1 rfl) ?_
              refine va_get (D := D) (ci := 5) (v := .ref (qm 19)) (C := RModel) (T := TModel) (N := 25) hx hb hts (fun w h => mc (uModel_in w h)) hown hK hP 0 rfl rfl 21 (by decide) (hts _ (mc wd426)) (fun _ h9 => h9) rfl dModel_restart_101 ?_
              refine lv_bipush (v := nI 20) hx hb dModel_restart_104 (by decide) ?_
              refine lv_iload_n hx hb dModel_restart_106 rfl (lv_at hl 2 rfl) ?_
              refine lv_imul hx hb dModel_restart_107 ?_
              refine lv_topi (nm_r (pk_mul _ _) ?_)
              refine lv_iload_n hx hb dModel_restart_108 rfl (lv_at hl 0 rfl) ?_
              refine lv_iadd hx hb dModel_restart_109 ?_
              refine lv_topi (nm_r (nI_add _ _) ?_)
              refine lv_iconst (v := nI 0) hx hb dModel_restart_110 (by decide) ?_
              refine ka_st (f' := upd (hrm ((rst (put x 13 a 0 (nI 0)) a 4 i).2 1)) (20 * a + i) (nI 0)) hx hb hK hP hD hS 19 0 rfl rfl (by omega) (by omega) rfl dModel_restart_111 (fun H locs hP hD hS => ?_)
              have hP : va_P D vwCl (wR qm cI cZ n S P (col ((rst (put x 13 a 0 (nI 0)) a 4 i).1 13) 0) (col ((rst (put x 13 a 0 (nI 0)) a 4 i).1 0) 0) (col ((rst (put x 13 a 0 (nI 0)) a 4 i).1 0) 1) (col ((rst (put x 13 a 0 (nI 0)) a 4 i).1 0) 2) (col ((rst (put x 13 a 0 (nI 0)) a 4 i).1 0) 3) (col ((rst (put x 13 a 0 (nI 0)) a 4 i).1 0) 4) (col ((rst (put x 13 a 0 (nI 0)) a 4 i).1 0) 5) (col ((rst (put x 13 a 0 (nI 0)) a 4 i).1 0) 6) (sq 4 ((rst (put x 13 a 0 (nI 0)) a 4 i).1 2)) (sq 4 ((rst (put x 13 a 0 (nI 0)) a 4 i).1 1)) (sq 4 ((rst (put x 13 a 0 (nI 0)) a 4 i).1 6)) (sq 4 ((rst (put x 13 a 0 (nI 0)) a 4 i).1 3)) (sq 4 ((rst (put x 13 a 0 (nI 0)) a 4 i).1 4)) (sq 4 ((rst (put x 13 a 0 (nI 0)) a 4 i).1 7)) (sq 4 ((rst (put x 13 a 0 (nI 0)) a 4 i).1 8)) (sq 4 ((rst (put x 13 a 0 (nI 0)) a 4 i).1 9)) (sq 4 ((rst (put x 13 a 0 (nI 0)) a 4 i).1 10)) (upd (hrm ((rst (put x 13 a 0 (nI 0)) a 4 i).2 0)) (20 * a + i) (-1)) (upd (hrm ((rst (put x 13 a 0 (nI 0)) a 4 i).2 1)) (20 * a + i) (nI 0)) (sq 4 ((rst (put x 13 a 0 (nI 0)) a 4 i).1 11)) ((rst (put x 13 a 0 (nI 0)) a 4 i).1 12 0 0) ((rst (put x 13 a 0 (nI 0)) a 4 i).1 12 0 1)) H := hP
              have hD : va_D A (wR qm cI cZ n S P (col ((rst (put x 13 a 0 (nI 0)) a 4 i).1 13) 0) (col ((rst (put x 13 a 0 (nI 0)) a 4 i).1 0) 0) (col ((rst (put x 13 a 0 (nI 0)) a 4 i).1 0) 1) (col ((rst (put x 13 a 0 (nI 0)) a 4 i).1 0) 2) (col ((rst (put x 13 a 0 (nI 0)) a 4 i).1 0) 3) (col ((rst (put x 13 a 0 (nI 0)) a 4 i).1 0) 4) (col ((rst (put x 13 a 0 (nI 0)) a 4 i).1 0) 5) (col ((rst (put x 13 a 0 (nI 0)) a 4 i).1 0) 6) (sq 4 ((rst (put x 13 a 0 (nI 0)) a 4 i).1 2)) (sq 4 ((rst (put x 13 a 0 (nI 0)) a 4 i).1 1)) (sq 4 ((rst (put x 13 a 0 (nI 0)) a 4 i).1 6)) (sq 4 ((rst (put x 13 a 0 (nI 0)) a 4 i).1 3)) (sq 4 ((rst (put x 13 a 0 (nI 0)) a 4 i).1 4)) (sq 4 ((rst (put x 13 a 0 (nI 0)) a 4 i).1 7)) (sq 4 ((rst (put x 13 a 0 (nI 0)) a 4 i).1 8)) (sq 4 ((rst (put x 13 a 0 (nI 0)) a 4 i).1 9)) (sq 4 ((rst (put x 13 a 0 (nI 0)) a 4 i).1 10)) (upd (hrm ((rst (put x 13 a 0 (nI 0)) a 4 i).2 0)) (20 * a + i) (-1)) (upd (hrm ((rst (put x 13 a 0 (nI 0)) a 4 i).2 1)) (20 * a + i) (nI 0)) (sq 4 ((rst (put x 13 a 0 (nI 0)) a 4 i).1 11)) ((rst (put x 13 a 0 (nI 0)) a 4 i).1 12 0 0) ((rst (put x 13 a 0 (nI 0)) a 4 i).1 12 0 1)) := hD
              have hW3 : (wR qm cI cZ n S P (col ((rst (put x 13 a 0 (nI 0)) a 4 i).1 13) 0) (col ((rst (put x 13 a 0 (nI 0)) a 4 i).1 0) 0) (col ((rst (put x 13 a 0 (nI 0)) a 4 i).1 0) 1) (col ((rst (put x 13 a 0 (nI 0)) a 4 i).1 0) 2) (col ((rst (put x 13 a 0 (nI 0)) a 4 i).1 0) 3) (col ((rst (put x 13 a 0 (nI 0)) a 4 i).1 0) 4) (col ((rst (put x 13 a 0 (nI 0)) a 4 i).1 0) 5) (col ((rst (put x 13 a 0 (nI 0)) a 4 i).1 0) 6) (sq 4 ((rst (put x 13 a 0 (nI 0)) a 4 i).1 2)) (sq 4 ((rst (put x 13 a 0 (nI 0)) a 4 i).1 1)) (sq 4 ((rst (put x 13 a 0 (nI 0)) a 4 i).1 6)) (sq 4 ((rst (put x 13 a 0 (nI 0)) a 4 i).1 3)) (sq 4 ((rst (put x 13 a 0 (nI 0)) a 4 i).1 4)) (sq 4 ((rst (put x 13 a 0 (nI 0)) a 4 i).1 7)) (sq 4 ((rst (put x 13 a 0 (nI 0)) a 4 i).1 8)) (sq 4 ((rst (put x 13 a 0 (nI 0)) a 4 i).1 9)) (sq 4 ((rst (put x 13 a 0 (nI 0)) a 4 i).1 10)) (upd (hrm ((rst (put x 13 a 0 (nI 0)) a 4 i).2 0)) (20 * a + i) (-1)) (upd (hrm ((rst (put x 13 a 0 (nI 0)) a 4 i).2 1)) (20 * a + i) (nI 0)) (sq 4 ((rst (put x 13 a 0 (nI 0)) a 4 i).1 11)) ((rst (put x 13 a 0 (nI 0)) a 4 i).1 12 0 0) ((rst (put x 13 a 0 (nI 0)) a 4 i).1 12 0 1)) = (wM qm cI cZ n S P (rst (put x 13 a 0 (nI 0)) a 4 (i + 1))) := rst_b (by omega)
              rw [hW3] at hP hD
              refine lv_iinc (k := 0) (v := nI (i + 1)) hx hb dModel_restart_112 hl rfl ((nI_succ _).symm) (by decide) rfl (fun ls hl => ?_)
              have hl : lv_has ls 4 [(2, .int (nI (i + 1))), (0, .ref (qm 0)), (1, .int (nI a))] := hl
              refine lv_goto (tgt := 82) hx hb dModel_restart_115 (by decide) ?_
              exact ih82 (i + 1) ls H locs (by omega) hl hP hD hS
          exact loop82 20 0 ls H locs (by omega) hl hP hD hS
        | succ d28 ih28 =>
          intro i ls H locs hid28  hl hP hD hS
          refine lv_iload_n hx hb dModel_restart_28 rfl (lv_at hl 0 rfl) ?_
          refine lv_iconst (v := nI 4) hx hb dModel_restart_29 (by decide) ?_
          refine lv_icmp_ge (tgt := 80) hx hb dModel_restart_30 (by decide) (fun h9 => absurd h9 (nI_ge (by omega) (by omega))) (fun _ => ?_)
          refine lv_iconst (v := nI 4) hx hb dModel_restart_33 (by decide) ?_
          refine lv_iload_n hx hb dModel_restart_34 rfl (lv_at hl 2 rfl) ?_
          refine lv_imul hx hb dModel_restart_35 ?_
          refine lv_topi (nm_r ((pk_mul _ _).trans (congrArg nI (Nat.mul_comm _ _))) ?_)
          refine lv_iload_n hx hb dModel_restart_36 rfl (lv_at hl 0 rfl) ?_
          refine lv_iadd hx hb dModel_restart_37 ?_
          refine lv_topi (nm_r (nI_add _ _) ?_)
          refine lv_istore_n hx hb dModel_restart_38 rfl hl (by decide) rfl (fun ls hl => ?_)
          have hl : lv_has ls 4 [(3, .int (nI (a * 4 + i))), (2, .int (nI i)), (0, .ref (qm 0)), (1, .int (nI a))] := hl
          refine lv_aload_n hx hb dModel_restart_39 rfl (lv_at hl 2 rfl) ?_
          refine va_get (D := D) (ci := 5) (v := .ref (qm 10)) (C := RModel) (T := TModel) (N := 25) hx hb hts (fun w h => mc (uModel_in w h)) hown hK hP 0 rfl rfl 12 (by decide) (hts _ (mc wd417)) (fun _ h9 => h9) rfl dModel_restart_40 ?_
          refine lv_iload_n hx hb dModel_restart_43 rfl (lv_at hl 0 rfl) ?_
          refine lv_iconst (v := nI 0) hx hb dModel_restart_44 (by decide) ?_
          refine ka_st (f' := sq 4 (up2 ((rst (put x 13 a 0 (nI 0)) a i 0).1 1) a i (nI 0))) hx hb hK hP hD hS 10 0 rfl rfl (by omega) (by omega) (sq_up (by omega)) dModel_restart_45 (fun H locs hP hD hS => ?_)
          have hP : va_P D vwCl (wR qm cI cZ n S P (col ((rst (put x 13 a 0 (nI 0)) a i 0).1 13) 0) (col ((rst (put x 13 a 0 (nI 0)) a i 0).1 0) 0) (col ((rst (put x 13 a 0 (nI 0)) a i 0).1 0) 1) (col ((rst (put x 13 a 0 (nI 0)) a i 0).1 0) 2) (col ((rst (put x 13 a 0 (nI 0)) a i 0).1 0) 3) (col ((rst (put x 13 a 0 (nI 0)) a i 0).1 0) 4) (col ((rst (put x 13 a 0 (nI 0)) a i 0).1 0) 5) (col ((rst (put x 13 a 0 (nI 0)) a i 0).1 0) 6) (sq 4 ((rst (put x 13 a 0 (nI 0)) a i 0).1 2)) (sq 4 (up2 ((rst (put x 13 a 0 (nI 0)) a i 0).1 1) a i (nI 0))) (sq 4 ((rst (put x 13 a 0 (nI 0)) a i 0).1 6)) (sq 4 ((rst (put x 13 a 0 (nI 0)) a i 0).1 3)) (sq 4 ((rst (put x 13 a 0 (nI 0)) a i 0).1 4)) (sq 4 ((rst (put x 13 a 0 (nI 0)) a i 0).1 7)) (sq 4 ((rst (put x 13 a 0 (nI 0)) a i 0).1 8)) (sq 4 ((rst (put x 13 a 0 (nI 0)) a i 0).1 9)) (sq 4 ((rst (put x 13 a 0 (nI 0)) a i 0).1 10)) (hrm ((rst (put x 13 a 0 (nI 0)) a i 0).2 0)) (hrm ((rst (put x 13 a 0 (nI 0)) a i 0).2 1)) (sq 4 ((rst (put x 13 a 0 (nI 0)) a i 0).1 11)) ((rst (put x 13 a 0 (nI 0)) a i 0).1 12 0 0) ((rst (put x 13 a 0 (nI 0)) a i 0).1 12 0 1)) H := hP
          have hD : va_D A (wR qm cI cZ n S P (col ((rst (put x 13 a 0 (nI 0)) a i 0).1 13) 0) (col ((rst (put x 13 a 0 (nI 0)) a i 0).1 0) 0) (col ((rst (put x 13 a 0 (nI 0)) a i 0).1 0) 1) (col ((rst (put x 13 a 0 (nI 0)) a i 0).1 0) 2) (col ((rst (put x 13 a 0 (nI 0)) a i 0).1 0) 3) (col ((rst (put x 13 a 0 (nI 0)) a i 0).1 0) 4) (col ((rst (put x 13 a 0 (nI 0)) a i 0).1 0) 5) (col ((rst (put x 13 a 0 (nI 0)) a i 0).1 0) 6) (sq 4 ((rst (put x 13 a 0 (nI 0)) a i 0).1 2)) (sq 4 (up2 ((rst (put x 13 a 0 (nI 0)) a i 0).1 1) a i (nI 0))) (sq 4 ((rst (put x 13 a 0 (nI 0)) a i 0).1 6)) (sq 4 ((rst (put x 13 a 0 (nI 0)) a i 0).1 3)) (sq 4 ((rst (put x 13 a 0 (nI 0)) a i 0).1 4)) (sq 4 ((rst (put x 13 a 0 (nI 0)) a i 0).1 7)) (sq 4 ((rst (put x 13 a 0 (nI 0)) a i 0).1 8)) (sq 4 ((rst (put x 13 a 0 (nI 0)) a i 0).1 9)) (sq 4 ((rst (put x 13 a 0 (nI 0)) a i 0).1 10)) (hrm ((rst (put x 13 a 0 (nI 0)) a i 0).2 0)) (hrm ((rst (put x 13 a 0 (nI 0)) a i 0).2 1)) (sq 4 ((rst (put x 13 a 0 (nI 0)) a i 0).1 11)) ((rst (put x 13 a 0 (nI 0)) a i 0).1 12 0 0) ((rst (put x 13 a 0 (nI 0)) a i 0).1 12 0 1)) := hD
          refine lv_aload_n hx hb dModel_restart_46 rfl (lv_at hl 2 rfl) ?_
          refine va_get (D := D) (ci := 5) (v := .ref (qm 12)) (C := RModel) (T := TModel) (N := 25) hx hb hts (fun w h => mc (uModel_in w h)) hown hK hP 0 rfl rfl 14 (by decide) (hts _ (mc wd419)) (fun _ h9 => h9) rfl dModel_restart_47 ?_
          refine lv_iload_n hx hb dModel_restart_50 rfl (lv_at hl 0 rfl) ?_
          refine lv_iconst (v := nI 0) hx hb dModel_restart_51 (by decide) ?_
          refine ka_st (f' := sq 4 (up2 ((rst (put x 13 a 0 (nI 0)) a i 0).1 3) a i (nI 0))) hx hb hK hP hD hS 12 0 rfl rfl (by omega) (by omega) (sq_up (by omega)) dModel_restart_52 (fun H locs hP hD hS => ?_)
          have hP : va_P D vwCl (wR qm cI cZ n S P (col ((rst (put x 13 a 0 (nI 0)) a i 0).1 13) 0) (col ((rst (put x 13 a 0 (nI 0)) a i 0).1 0) 0) (col ((rst (put x 13 a 0 (nI 0)) a i 0).1 0) 1) (col ((rst (put x 13 a 0 (nI 0)) a i 0).1 0) 2) (col ((rst (put x 13 a 0 (nI 0)) a i 0).1 0) 3) (col ((rst (put x 13 a 0 (nI 0)) a i 0).1 0) 4) (col ((rst (put x 13 a 0 (nI 0)) a i 0).1 0) 5) (col ((rst (put x 13 a 0 (nI 0)) a i 0).1 0) 6) (sq 4 ((rst (put x 13 a 0 (nI 0)) a i 0).1 2)) (sq 4 (up2 ((rst (put x 13 a 0 (nI 0)) a i 0).1 1) a i (nI 0))) (sq 4 ((rst (put x 13 a 0 (nI 0)) a i 0).1 6)) (sq 4 (up2 ((rst (put x 13 a 0 (nI 0)) a i 0).1 3) a i (nI 0))) (sq 4 ((rst (put x 13 a 0 (nI 0)) a i 0).1 4)) (sq 4 ((rst (put x 13 a 0 (nI 0)) a i 0).1 7)) (sq 4 ((rst (put x 13 a 0 (nI 0)) a i 0).1 8)) (sq 4 ((rst (put x 13 a 0 (nI 0)) a i 0).1 9)) (sq 4 ((rst (put x 13 a 0 (nI 0)) a i 0).1 10)) (hrm ((rst (put x 13 a 0 (nI 0)) a i 0).2 0)) (hrm ((rst (put x 13 a 0 (nI 0)) a i 0).2 1)) (sq 4 ((rst (put x 13 a 0 (nI 0)) a i 0).1 11)) ((rst (put x 13 a 0 (nI 0)) a i 0).1 12 0 0) ((rst (put x 13 a 0 (nI 0)) a i 0).1 12 0 1)) H := hP
          have hD : va_D A (wR qm cI cZ n S P (col ((rst (put x 13 a 0 (nI 0)) a i 0).1 13) 0) (col ((rst (put x 13 a 0 (nI 0)) a i 0).1 0) 0) (col ((rst (put x 13 a 0 (nI 0)) a i 0).1 0) 1) (col ((rst (put x 13 a 0 (nI 0)) a i 0).1 0) 2) (col ((rst (put x 13 a 0 (nI 0)) a i 0).1 0) 3) (col ((rst (put x 13 a 0 (nI 0)) a i 0).1 0) 4) (col ((rst (put x 13 a 0 (nI 0)) a i 0).1 0) 5) (col ((rst (put x 13 a 0 (nI 0)) a i 0).1 0) 6) (sq 4 ((rst (put x 13 a 0 (nI 0)) a i 0).1 2)) (sq 4 (up2 ((rst (put x 13 a 0 (nI 0)) a i 0).1 1) a i (nI 0))) (sq 4 ((rst (put x 13 a 0 (nI 0)) a i 0).1 6)) (sq 4 (up2 ((rst (put x 13 a 0 (nI 0)) a i 0).1 3) a i (nI 0))) (sq 4 ((rst (put x 13 a 0 (nI 0)) a i 0).1 4)) (sq 4 ((rst (put x 13 a 0 (nI 0)) a i 0).1 7)) (sq 4 ((rst (put x 13 a 0 (nI 0)) a i 0).1 8)) (sq 4 ((rst (put x 13 a 0 (nI 0)) a i 0).1 9)) (sq 4 ((rst (put x 13 a 0 (nI 0)) a i 0).1 10)) (hrm ((rst (put x 13 a 0 (nI 0)) a i 0).2 0)) (hrm ((rst (put x 13 a 0 (nI 0)) a i 0).2 1)) (sq 4 ((rst (put x 13 a 0 (nI 0)) a i 0).1 11)) ((rst (put x 13 a 0 (nI 0)) a i 0).1 12 0 0) ((rst (put x 13 a 0 (nI 0)) a i 0).1 12 0 1)) := hD
          refine lv_aload_n hx hb dModel_restart_53 rfl (lv_at hl 2 rfl) ?_
          refine va_get (D := D) (ci := 5) (v := .ref (qm 13)) (C := RModel) (T := TModel) (N := 25) hx hb hts (fun w h => mc (uModel_in w h)) hown hK hP 0 rfl rfl 15 (by decide) (hts _ (mc wd420)) (fun _ h9 => h9) rfl dModel_restart_54 ?_
          refine lv_iload_n hx hb dModel_restart_57 rfl (lv_at hl 0 rfl) ?_
          refine lv_iconst (v := (-1)) hx hb dModel_restart_58 (by decide) ?_
          refine ka_st (f' := sq 4 (up2 ((rst (put x 13 a 0 (nI 0)) a i 0).1 4) a i (-1))) hx hb hK hP hD hS 13 0 rfl rfl (by omega) (by omega) (sq_up (by omega)) dModel_restart_59 (fun H locs hP hD hS => ?_)
          have hP : va_P D vwCl (wR qm cI cZ n S P (col ((rst (put x 13 a 0 (nI 0)) a i 0).1 13) 0) (col ((rst (put x 13 a 0 (nI 0)) a i 0).1 0) 0) (col ((rst (put x 13 a 0 (nI 0)) a i 0).1 0) 1) (col ((rst (put x 13 a 0 (nI 0)) a i 0).1 0) 2) (col ((rst (put x 13 a 0 (nI 0)) a i 0).1 0) 3) (col ((rst (put x 13 a 0 (nI 0)) a i 0).1 0) 4) (col ((rst (put x 13 a 0 (nI 0)) a i 0).1 0) 5) (col ((rst (put x 13 a 0 (nI 0)) a i 0).1 0) 6) (sq 4 ((rst (put x 13 a 0 (nI 0)) a i 0).1 2)) (sq 4 (up2 ((rst (put x 13 a 0 (nI 0)) a i 0).1 1) a i (nI 0))) (sq 4 ((rst (put x 13 a 0 (nI 0)) a i 0).1 6)) (sq 4 (up2 ((rst (put x 13 a 0 (nI 0)) a i 0).1 3) a i (nI 0))) (sq 4 (up2 ((rst (put x 13 a 0 (nI 0)) a i 0).1 4) a i (-1))) (sq 4 ((rst (put x 13 a 0 (nI 0)) a i 0).1 7)) (sq 4 ((rst (put x 13 a 0 (nI 0)) a i 0).1 8)) (sq 4 ((rst (put x 13 a 0 (nI 0)) a i 0).1 9)) (sq 4 ((rst (put x 13 a 0 (nI 0)) a i 0).1 10)) (hrm ((rst (put x 13 a 0 (nI 0)) a i 0).2 0)) (hrm ((rst (put x 13 a 0 (nI 0)) a i 0).2 1)) (sq 4 ((rst (put x 13 a 0 (nI 0)) a i 0).1 11)) ((rst (put x 13 a 0 (nI 0)) a i 0).1 12 0 0) ((rst (put x 13 a 0 (nI 0)) a i 0).1 12 0 1)) H := hP
          have hD : va_D A (wR qm cI cZ n S P (col ((rst (put x 13 a 0 (nI 0)) a i 0).1 13) 0) (col ((rst (put x 13 a 0 (nI 0)) a i 0).1 0) 0) (col ((rst (put x 13 a 0 (nI 0)) a i 0).1 0) 1) (col ((rst (put x 13 a 0 (nI 0)) a i 0).1 0) 2) (col ((rst (put x 13 a 0 (nI 0)) a i 0).1 0) 3) (col ((rst (put x 13 a 0 (nI 0)) a i 0).1 0) 4) (col ((rst (put x 13 a 0 (nI 0)) a i 0).1 0) 5) (col ((rst (put x 13 a 0 (nI 0)) a i 0).1 0) 6) (sq 4 ((rst (put x 13 a 0 (nI 0)) a i 0).1 2)) (sq 4 (up2 ((rst (put x 13 a 0 (nI 0)) a i 0).1 1) a i (nI 0))) (sq 4 ((rst (put x 13 a 0 (nI 0)) a i 0).1 6)) (sq 4 (up2 ((rst (put x 13 a 0 (nI 0)) a i 0).1 3) a i (nI 0))) (sq 4 (up2 ((rst (put x 13 a 0 (nI 0)) a i 0).1 4) a i (-1))) (sq 4 ((rst (put x 13 a 0 (nI 0)) a i 0).1 7)) (sq 4 ((rst (put x 13 a 0 (nI 0)) a i 0).1 8)) (sq 4 ((rst (put x 13 a 0 (nI 0)) a i 0).1 9)) (sq 4 ((rst (put x 13 a 0 (nI 0)) a i 0).1 10)) (hrm ((rst (put x 13 a 0 (nI 0)) a i 0).2 0)) (hrm ((rst (put x 13 a 0 (nI 0)) a i 0).2 1)) (sq 4 ((rst (put x 13 a 0 (nI 0)) a i 0).1 11)) ((rst (put x 13 a 0 (nI 0)) a i 0).1 12 0 0) ((rst (put x 13 a 0 (nI 0)) a i 0).1 12 0 1)) := hD
          refine lv_aload_n hx hb dModel_restart_60 rfl (lv_at hl 2 rfl) ?_
          refine va_get (D := D) (ci := 5) (v := .ref (qm 14)) (C := RModel) (T := TModel) (N := 25) hx hb hts (fun w h => mc (uModel_in w h)) hown hK hP 0 rfl rfl 16 (by decide) (hts _ (mc wd421)) (fun _ h9 => h9) rfl dModel_restart_61 ?_
          refine lv_iload_n hx hb dModel_restart_64 rfl (lv_at hl 0 rfl) ?_
          refine lv_iconst (v := nI 0) hx hb dModel_restart_65 (by decide) ?_
          refine ka_st (f' := sq 4 (up2 ((rst (put x 13 a 0 (nI 0)) a i 0).1 7) a i (nI 0))) hx hb hK hP hD hS 14 0 rfl rfl (by omega) (by omega) (sq_up (by omega)) dModel_restart_66 (fun H locs hP hD hS => ?_)
          have hP : va_P D vwCl (wR qm cI cZ n S P (col ((rst (put x 13 a 0 (nI 0)) a i 0).1 13) 0) (col ((rst (put x 13 a 0 (nI 0)) a i 0).1 0) 0) (col ((rst (put x 13 a 0 (nI 0)) a i 0).1 0) 1) (col ((rst (put x 13 a 0 (nI 0)) a i 0).1 0) 2) (col ((rst (put x 13 a 0 (nI 0)) a i 0).1 0) 3) (col ((rst (put x 13 a 0 (nI 0)) a i 0).1 0) 4) (col ((rst (put x 13 a 0 (nI 0)) a i 0).1 0) 5) (col ((rst (put x 13 a 0 (nI 0)) a i 0).1 0) 6) (sq 4 ((rst (put x 13 a 0 (nI 0)) a i 0).1 2)) (sq 4 (up2 ((rst (put x 13 a 0 (nI 0)) a i 0).1 1) a i (nI 0))) (sq 4 ((rst (put x 13 a 0 (nI 0)) a i 0).1 6)) (sq 4 (up2 ((rst (put x 13 a 0 (nI 0)) a i 0).1 3) a i (nI 0))) (sq 4 (up2 ((rst (put x 13 a 0 (nI 0)) a i 0).1 4) a i (-1))) (sq 4 (up2 ((rst (put x 13 a 0 (nI 0)) a i 0).1 7) a i (nI 0))) (sq 4 ((rst (put x 13 a 0 (nI 0)) a i 0).1 8)) (sq 4 ((rst (put x 13 a 0 (nI 0)) a i 0).1 9)) (sq 4 ((rst (put x 13 a 0 (nI 0)) a i 0).1 10)) (hrm ((rst (put x 13 a 0 (nI 0)) a i 0).2 0)) (hrm ((rst (put x 13 a 0 (nI 0)) a i 0).2 1)) (sq 4 ((rst (put x 13 a 0 (nI 0)) a i 0).1 11)) ((rst (put x 13 a 0 (nI 0)) a i 0).1 12 0 0) ((rst (put x 13 a 0 (nI 0)) a i 0).1 12 0 1)) H := hP
          have hD : va_D A (wR qm cI cZ n S P (col ((rst (put x 13 a 0 (nI 0)) a i 0).1 13) 0) (col ((rst (put x 13 a 0 (nI 0)) a i 0).1 0) 0) (col ((rst (put x 13 a 0 (nI 0)) a i 0).1 0) 1) (col ((rst (put x 13 a 0 (nI 0)) a i 0).1 0) 2) (col ((rst (put x 13 a 0 (nI 0)) a i 0).1 0) 3) (col ((rst (put x 13 a 0 (nI 0)) a i 0).1 0) 4) (col ((rst (put x 13 a 0 (nI 0)) a i 0).1 0) 5) (col ((rst (put x 13 a 0 (nI 0)) a i 0).1 0) 6) (sq 4 ((rst (put x 13 a 0 (nI 0)) a i 0).1 2)) (sq 4 (up2 ((rst (put x 13 a 0 (nI 0)) a i 0).1 1) a i (nI 0))) (sq 4 ((rst (put x 13 a 0 (nI 0)) a i 0).1 6)) (sq 4 (up2 ((rst (put x 13 a 0 (nI 0)) a i 0).1 3) a i (nI 0))) (sq 4 (up2 ((rst (put x 13 a 0 (nI 0)) a i 0).1 4) a i (-1))) (sq 4 (up2 ((rst (put x 13 a 0 (nI 0)) a i 0).1 7) a i (nI 0))) (sq 4 ((rst (put x 13 a 0 (nI 0)) a i 0).1 8)) (sq 4 ((rst (put x 13 a 0 (nI 0)) a i 0).1 9)) (sq 4 ((rst (put x 13 a 0 (nI 0)) a i 0).1 10)) (hrm ((rst (put x 13 a 0 (nI 0)) a i 0).2 0)) (hrm ((rst (put x 13 a 0 (nI 0)) a i 0).2 1)) (sq 4 ((rst (put x 13 a 0 (nI 0)) a i 0).1 11)) ((rst (put x 13 a 0 (nI 0)) a i 0).1 12 0 0) ((rst (put x 13 a 0 (nI 0)) a i 0).1 12 0 1)) := hD
          refine lv_aload_n hx hb dModel_restart_67 rfl (lv_at hl 2 rfl) ?_
          refine va_get (D := D) (ci := 5) (v := .ref (qm 20)) (C := RModel) (T := TModel) (N := 25) hx hb hts (fun w h => mc (uModel_in w h)) hown hK hP 0 rfl rfl 22 (by decide) (hts _ (mc wd427)) (fun _ h9 => h9) rfl dModel_restart_68 ?_
          refine lv_iload_n hx hb dModel_restart_71 rfl (lv_at hl 0 rfl) ?_
          refine lv_iconst (v := nI 0) hx hb dModel_restart_72 (by decide) ?_
          refine ka_st (f' := sq 4 (up2 ((rst (put x 13 a 0 (nI 0)) a i 0).1 11) a i (nI 0))) hx hb hK hP hD hS 20 0 rfl rfl (by omega) (by omega) (sq_up (by omega)) dModel_restart_73 (fun H locs hP hD hS => ?_)
          have hP : va_P D vwCl (wR qm cI cZ n S P (col ((rst (put x 13 a 0 (nI 0)) a i 0).1 13) 0) (col ((rst (put x 13 a 0 (nI 0)) a i 0).1 0) 0) (col ((rst (put x 13 a 0 (nI 0)) a i 0).1 0) 1) (col ((rst (put x 13 a 0 (nI 0)) a i 0).1 0) 2) (col ((rst (put x 13 a 0 (nI 0)) a i 0).1 0) 3) (col ((rst (put x 13 a 0 (nI 0)) a i 0).1 0) 4) (col ((rst (put x 13 a 0 (nI 0)) a i 0).1 0) 5) (col ((rst (put x 13 a 0 (nI 0)) a i 0).1 0) 6) (sq 4 ((rst (put x 13 a 0 (nI 0)) a i 0).1 2)) (sq 4 (up2 ((rst (put x 13 a 0 (nI 0)) a i 0).1 1) a i (nI 0))) (sq 4 ((rst (put x 13 a 0 (nI 0)) a i 0).1 6)) (sq 4 (up2 ((rst (put x 13 a 0 (nI 0)) a i 0).1 3) a i (nI 0))) (sq 4 (up2 ((rst (put x 13 a 0 (nI 0)) a i 0).1 4) a i (-1))) (sq 4 (up2 ((rst (put x 13 a 0 (nI 0)) a i 0).1 7) a i (nI 0))) (sq 4 ((rst (put x 13 a 0 (nI 0)) a i 0).1 8)) (sq 4 ((rst (put x 13 a 0 (nI 0)) a i 0).1 9)) (sq 4 ((rst (put x 13 a 0 (nI 0)) a i 0).1 10)) (hrm ((rst (put x 13 a 0 (nI 0)) a i 0).2 0)) (hrm ((rst (put x 13 a 0 (nI 0)) a i 0).2 1)) (sq 4 (up2 ((rst (put x 13 a 0 (nI 0)) a i 0).1 11) a i (nI 0))) ((rst (put x 13 a 0 (nI 0)) a i 0).1 12 0 0) ((rst (put x 13 a 0 (nI 0)) a i 0).1 12 0 1)) H := hP
          have hD : va_D A (wR qm cI cZ n S P (col ((rst (put x 13 a 0 (nI 0)) a i 0).1 13) 0) (col ((rst (put x 13 a 0 (nI 0)) a i 0).1 0) 0) (col ((rst (put x 13 a 0 (nI 0)) a i 0).1 0) 1) (col ((rst (put x 13 a 0 (nI 0)) a i 0).1 0) 2) (col ((rst (put x 13 a 0 (nI 0)) a i 0).1 0) 3) (col ((rst (put x 13 a 0 (nI 0)) a i 0).1 0) 4) (col ((rst (put x 13 a 0 (nI 0)) a i 0).1 0) 5) (col ((rst (put x 13 a 0 (nI 0)) a i 0).1 0) 6) (sq 4 ((rst (put x 13 a 0 (nI 0)) a i 0).1 2)) (sq 4 (up2 ((rst (put x 13 a 0 (nI 0)) a i 0).1 1) a i (nI 0))) (sq 4 ((rst (put x 13 a 0 (nI 0)) a i 0).1 6)) (sq 4 (up2 ((rst (put x 13 a 0 (nI 0)) a i 0).1 3) a i (nI 0))) (sq 4 (up2 ((rst (put x 13 a 0 (nI 0)) a i 0).1 4) a i (-1))) (sq 4 (up2 ((rst (put x 13 a 0 (nI 0)) a i 0).1 7) a i (nI 0))) (sq 4 ((rst (put x 13 a 0 (nI 0)) a i 0).1 8)) (sq 4 ((rst (put x 13 a 0 (nI 0)) a i 0).1 9)) (sq 4 ((rst (put x 13 a 0 (nI 0)) a i 0).1 10)) (hrm ((rst (put x 13 a 0 (nI 0)) a i 0).2 0)) (hrm ((rst (put x 13 a 0 (nI 0)) a i 0).2 1)) (sq 4 (up2 ((rst (put x 13 a 0 (nI 0)) a i 0).1 11) a i (nI 0))) ((rst (put x 13 a 0 (nI 0)) a i 0).1 12 0 0) ((rst (put x 13 a 0 (nI 0)) a i 0).1 12 0 1)) := hD
          have hW4 : (wR qm cI cZ n S P (col ((rst (put x 13 a 0 (nI 0)) a i 0).1 13) 0) (col ((rst (put x 13 a 0 (nI 0)) a i 0).1 0) 0) (col ((rst (put x 13 a 0 (nI 0)) a i 0).1 0) 1) (col ((rst (put x 13 a 0 (nI 0)) a i 0).1 0) 2) (col ((rst (put x 13 a 0 (nI 0)) a i 0).1 0) 3) (col ((rst (put x 13 a 0 (nI 0)) a i 0).1 0) 4) (col ((rst (put x 13 a 0 (nI 0)) a i 0).1 0) 5) (col ((rst (put x 13 a 0 (nI 0)) a i 0).1 0) 6) (sq 4 ((rst (put x 13 a 0 (nI 0)) a i 0).1 2)) (sq 4 (up2 ((rst (put x 13 a 0 (nI 0)) a i 0).1 1) a i (nI 0))) (sq 4 ((rst (put x 13 a 0 (nI 0)) a i 0).1 6)) (sq 4 (up2 ((rst (put x 13 a 0 (nI 0)) a i 0).1 3) a i (nI 0))) (sq 4 (up2 ((rst (put x 13 a 0 (nI 0)) a i 0).1 4) a i (-1))) (sq 4 (up2 ((rst (put x 13 a 0 (nI 0)) a i 0).1 7) a i (nI 0))) (sq 4 ((rst (put x 13 a 0 (nI 0)) a i 0).1 8)) (sq 4 ((rst (put x 13 a 0 (nI 0)) a i 0).1 9)) (sq 4 ((rst (put x 13 a 0 (nI 0)) a i 0).1 10)) (hrm ((rst (put x 13 a 0 (nI 0)) a i 0).2 0)) (hrm ((rst (put x 13 a 0 (nI 0)) a i 0).2 1)) (sq 4 (up2 ((rst (put x 13 a 0 (nI 0)) a i 0).1 11) a i (nI 0))) ((rst (put x 13 a 0 (nI 0)) a i 0).1 12 0 0) ((rst (put x 13 a 0 (nI 0)) a i 0).1 12 0 1)) = (wM qm cI cZ n S P (rst (put x 13 a 0 (nI 0)) a (i + 1) 0)) := rst_a
          rw [hW4] at hP hD
          refine lv_iinc (k := 1) (v := nI (i + 1)) hx hb dModel_restart_74 hl rfl ((nI_succ _).symm) (by decide) rfl (fun ls hl => ?_)
          have hl : lv_has ls 4 [(2, .int (nI (i + 1))), (3, .int (nI (a * 4 + i))), (0, .ref (qm 0)), (1, .int (nI a))] := hl
          refine lv_goto (tgt := 28) hx hb dModel_restart_77 (by decide) ?_
          exact ih28 (i + 1) ls H locs (by omega) (lv_sub hl [0, 2, 3] rfl) hP hD hS
      exact loop28 4 0 ls H locs (by omega) hl hP hD hS
    · refine lv_iconst (v := (-1)) hx hb dModel_restart_17 (by decide) ?_
      exact W.iret (v := (-1)) hx hb hr (fun t9 ht9 hW9 => ⟨⟨(-1), (wM qm cI cZ n S P x), rfl, fin3 (if_neg (fun h => h.2 (by rw [ix_nI ha (by omega)]; exact c14))), by rw [ht9]; exact hP, va_K.moved hW9.alike hK, hD⟩, hS.F ht9⟩) hS.2.2 dModel_restart_18
  · have hP : va_P D vwCl (wM qm cI cZ n S P x) H := hP
    have hD : va_D A (wM qm cI cZ n S P x) := hD
    refine lv_if_eq (tgt := 17) hx hb dModel_restart_5 (by decide) (fun _ => ?_) (fun h9 => absurd (by decide) h9)
    refine lv_iconst (v := (-1)) hx hb dModel_restart_17 (by decide) ?_
    exact W.iret (v := (-1)) hx hb hr (fun t9 ht9 hW9 => ⟨⟨(-1), (wM qm cI cZ n S P x), rfl, fin3 (if_neg (fun h => h2 h.1)), by rw [ht9]; exact hP, va_K.moved hW9.alike hK, hD⟩, hS.F ht9⟩) hS.2.2 dModel_restart_18
theorem dModel_tell_0 : decode cModel_tell 0 = .ok (.aload_n 0, 1) := by decide +kernel
theorem dModel_tell_1 : decode cModel_tell 1 = .ok (.iload_n 1, 1) := by decide +kernel
theorem dModel_tell_2 : decode cModel_tell 2 = .ok (.invokevirtual 85, 3) := by decide +kernel
theorem dModel_tell_5 : decode cModel_tell 5 = .ok (.ifCond .eq 24, 3) := by decide +kernel
theorem dModel_tell_8 : decode cModel_tell 8 = .ok (.aload_n 0, 1) := by decide +kernel
theorem dModel_tell_9 : decode cModel_tell 9 = .ok (.iload_n 2, 1) := by decide +kernel
theorem dModel_tell_10 : decode cModel_tell 10 = .ok (.invokevirtual 89, 3) := by decide +kernel
theorem dModel_tell_13 : decode cModel_tell 13 = .ok (.ifCond .eq 16, 3) := by decide +kernel
theorem dModel_tell_16 : decode cModel_tell 16 = .ok (.aload_n 0, 1) := by decide +kernel
theorem dModel_tell_17 : decode cModel_tell 17 = .ok (.getfield 68, 3) := by decide +kernel
theorem dModel_tell_20 : decode cModel_tell 20 = .ok (.iconst 4, 1) := by decide +kernel
theorem dModel_tell_21 : decode cModel_tell 21 = .ok (.iload_n 1, 1) := by decide +kernel
theorem dModel_tell_22 : decode cModel_tell 22 = .ok (.imul, 1) := by decide +kernel
theorem dModel_tell_23 : decode cModel_tell 23 = .ok (.iload_n 2, 1) := by decide +kernel
theorem dModel_tell_24 : decode cModel_tell 24 = .ok (.iadd, 1) := by decide +kernel
theorem dModel_tell_25 : decode cModel_tell 25 = .ok (.iaload, 1) := by decide +kernel
theorem dModel_tell_26 : decode cModel_tell 26 = .ok (.ifCond .ne 5, 3) := by decide +kernel
theorem dModel_tell_29 : decode cModel_tell 29 = .ok (.iconst (-1), 1) := by decide +kernel
theorem dModel_tell_30 : decode cModel_tell 30 = .ok (.ireturn, 1) := by decide +kernel
theorem dModel_tell_31 : decode cModel_tell 31 = .ok (.aload_n 0, 1) := by decide +kernel
theorem dModel_tell_32 : decode cModel_tell 32 = .ok (.getfield 7, 3) := by decide +kernel
theorem dModel_tell_35 : decode cModel_tell 35 = .ok (.iload_n 1, 1) := by decide +kernel
theorem dModel_tell_36 : decode cModel_tell 36 = .ok (.baload, 1) := by decide +kernel
theorem dModel_tell_37 : decode cModel_tell 37 = .ok (.ifCond .eq 6, 3) := by decide +kernel
theorem dModel_tell_40 : decode cModel_tell 40 = .ok (.bipush (-2), 2) := by decide +kernel
theorem dModel_tell_42 : decode cModel_tell 42 = .ok (.ireturn, 1) := by decide +kernel
theorem dModel_tell_43 : decode cModel_tell 43 = .ok (.aload_n 0, 1) := by decide +kernel
theorem dModel_tell_44 : decode cModel_tell 44 = .ok (.invokevirtual 92, 3) := by decide +kernel
theorem dModel_tell_47 : decode cModel_tell 47 = .ok (.aload_n 0, 1) := by decide +kernel
theorem dModel_tell_48 : decode cModel_tell 48 = .ok (.getfield 71, 3) := by decide +kernel
theorem dModel_tell_51 : decode cModel_tell 51 = .ok (.if_icmp .ge 6, 3) := by decide +kernel
theorem dModel_tell_54 : decode cModel_tell 54 = .ok (.bipush (-4), 2) := by decide +kernel
theorem dModel_tell_56 : decode cModel_tell 56 = .ok (.ireturn, 1) := by decide +kernel
theorem dModel_tell_57 : decode cModel_tell 57 = .ok (.aload_n 0, 1) := by decide +kernel
theorem dModel_tell_58 : decode cModel_tell 58 = .ok (.iconst 5, 1) := by decide +kernel
theorem dModel_tell_59 : decode cModel_tell 59 = .ok (.iload_n 1, 1) := by decide +kernel
theorem dModel_tell_60 : decode cModel_tell 60 = .ok (.iload_n 2, 1) := by decide +kernel
theorem dModel_tell_61 : decode cModel_tell 61 = .ok (.iconst (-1), 1) := by decide +kernel
theorem dModel_tell_62 : decode cModel_tell 62 = .ok (.aload_n 0, 1) := by decide +kernel
theorem dModel_tell_63 : decode cModel_tell 63 = .ok (.getfield 68, 3) := by decide +kernel
theorem dModel_tell_66 : decode cModel_tell 66 = .ok (.iconst 4, 1) := by decide +kernel
theorem dModel_tell_67 : decode cModel_tell 67 = .ok (.iload_n 1, 1) := by decide +kernel
theorem dModel_tell_68 : decode cModel_tell 68 = .ok (.imul, 1) := by decide +kernel
theorem dModel_tell_69 : decode cModel_tell 69 = .ok (.iload_n 2, 1) := by decide +kernel
theorem dModel_tell_70 : decode cModel_tell 70 = .ok (.iadd, 1) := by decide +kernel
theorem dModel_tell_71 : decode cModel_tell 71 = .ok (.iaload, 1) := by decide +kernel
theorem dModel_tell_72 : decode cModel_tell 72 = .ok (.invokevirtual 96, 3) := by decide +kernel
theorem dModel_tell_75 : decode cModel_tell 75 = .ok (.aload_n 0, 1) := by decide +kernel
theorem dModel_tell_76 : decode cModel_tell 76 = .ok (.getfield 68, 3) := by decide +kernel
theorem dModel_tell_79 : decode cModel_tell 79 = .ok (.iconst 4, 1) := by decide +kernel
theorem dModel_tell_80 : decode cModel_tell 80 = .ok (.iload_n 1, 1) := by decide +kernel
theorem dModel_tell_81 : decode cModel_tell 81 = .ok (.imul, 1) := by decide +kernel
theorem dModel_tell_82 : decode cModel_tell 82 = .ok (.iload_n 2, 1) := by decide +kernel
theorem dModel_tell_83 : decode cModel_tell 83 = .ok (.iadd, 1) := by decide +kernel
theorem dModel_tell_84 : decode cModel_tell 84 = .ok (.iaload, 1) := by decide +kernel
theorem dModel_tell_85 : decode cModel_tell 85 = .ok (.ireturn, 1) := by decide +kernel
set_option maxRecDepth 100000 in
set_option maxHeartbeats 4000000 in
theorem m_tell (l : Launch) (D : va_G) (cI cZ : ClassId) (qm : Nat → Nat) (n : Nat) (S : Nat) (P : Nat) (x : St) (nd : Int32) (sl : Int32) (hn1 : 1 ≤ n) (hn5 : n ≤ 5) (hS1 : 1 ≤ S) (hS4 : S ≤ 4) (hP5 : 5 ≤ P) (hP64 : P ≤ 64) (hIn : Inv n S x) : MI l D [(cI, .int), (cZ, .boolean)] yModel_tell wsModel_tell ({ frames := 2, cells := 0, slots := 0, locals := 55 }) [.ref (qm 0), .int nd, .int sl] (wM qm cI cZ n S P x) (fun r w => r = (sTell n S P x nd sl).1 ∧ w = (wM qm cI cZ n S P (sTell n S P x nd sl).2)) := by
  intro sz
  refine Met.ofW (cc := cModel_tell) (maxL := 3) (ret := (Option.some .int)) (by decide) rfl ?_
  intro p e s m args below meth c s₁ B hml hv
  obtain ⟨rfl, hsz, hP, hK, hD0, hZ⟩ := hv
  have hx := B.exec
  have hb := B.bytes
  have hr := B.returns
  have hts := atoms_spec (ws := wsModel_tell) B.pre
  have hown : s.vm.findClass RModel = some m.cls := findClass_of_methodNamed B.named
  have hlocks := B.notSynchronized
  subst hsz
  have hD := hD0.self (sz := s.heap.size)
  generalize hAe : va_A (wM qm cI cZ n S P x) s.heap.size = A at hD ⊢
  have hA : ∀ q : Nat, s.heap.size ≤ q → A q := fun q h => by rw [← hAe]; exact Or.inr h
  have hS : va_S A s.heap s.heap [] := va_S.rf
  have hP : va_P D vwCl (wM qm cI cZ n S P x) s.heap := hP
  have hl := lv_entry ([.ref (qm 0), .int nd, .int sl]) (n := 3) (Nat.le_of_ble_eq_true rfl)
  rw [lg_entry_eq]
  generalize (lg_sl ([.ref (qm 0), .int nd, .int sl]) ++ List.replicate (3 - (lg_sl ([.ref (qm 0), .int nd, .int sl])).length) Slot.unset).toArray = ls at hl ⊢
  have hl : lv_has ls 3 [(0, .ref (qm 0)), (1, .int nd), (2, .int sl)] := hl
  refine lv_aload_n hx hb dModel_tell_0 rfl (lv_at hl 0 rfl) ?_
  refine lv_iload_n hx hb dModel_tell_1 rfl (lv_at hl 1 rfl) ?_
  have hPc := hP.sub (ws' := (wM qm cI cZ n S P x)) [0, 1, 2, 3, 4, 5, 6, 7, 8, 9, 10, 11, 12, 13, 14, 15, 16, 17, 18, 19, 20] rfl
  have hDc := hD.sub (ws' := (wM qm cI cZ n S P x)) [0, 1, 2, 3, 4, 5, 6, 7, 8, 9, 10, 11, 12, 13, 14, 15, 16, 17, 18, 19, 20] (by decide) rfl
  refine kx_i (va_runV (As := [.int nd]) (rest := []) ⟨hx, hb, hml, hown, hts⟩ ((m_isNode l D cI cZ qm n S P x nd (hn1) (hn5) (hS1) (hS4) (hP5) (hP64)) s.heap.size) (cwV 1 hts (gV wd486 wd488 sl_Model_isNode wd7 wd489) rfl rfl rfl (by decide +kernel) ⟨Nat.le_of_ble_eq_true rfl, Nat.le_of_ble_eq_true rfl⟩) ⟨fb_PW, va_recv (q0 := 0) (ci := 5) hK hPc rfl rfl, pre_PW hK hPc hDc hZ⟩ rfl rfl hl.1 rfl (lv_room (Nat.le_of_ble_eq_true rfl)) dModel_tell_2 ⟨Nat.zero_le _, Nat.zero_le _⟩) hP hD hS hA [0, 1, 2, 3, 4, 5, 6, 7, 8, 9, 10, 11, 12, 13, 14, 15, 16, 17, 18, 19, 20] [] rfl rfl (by decide) (by decide) (fun r w1 H locs hw hP hD hS => ?_)
  rcases hw with ⟨rfl, h2, rfl⟩ | ⟨rfl, h2, rfl⟩
  · have hP : va_P D vwCl (wM qm cI cZ n S P x) H := hP
    have hD : va_D A (wM qm cI cZ n S P x) := hD
    obtain ⟨a, ha, rfl⟩ := okN_of (show n < 2 ^ 31 by omega) h2
    refine lv_if_eq (tgt := 29) hx hb dModel_tell_5 (by decide) (fun h9 => absurd h9 (by decide)) (fun _ => ?_)
    refine lv_aload_n hx hb dModel_tell_8 rfl (lv_at hl 0 rfl) ?_
    refine lv_iload_n hx hb dModel_tell_9 rfl (lv_at hl 2 rfl) ?_
    have hPc := hP.sub (ws' := (wM qm cI cZ n S P x)) [0, 1, 2, 3, 4, 5, 6, 7, 8, 9, 10, 11, 12, 13, 14, 15, 16, 17, 18, 19, 20] rfl
    have hDc := hD.sub (ws' := (wM qm cI cZ n S P x)) [0, 1, 2, 3, 4, 5, 6, 7, 8, 9, 10, 11, 12, 13, 14, 15, 16, 17, 18, 19, 20] (by decide) rfl
    refine kx_i (va_runV (As := [.int sl]) (rest := []) ⟨hx, hb, hml, hown, hts⟩ ((m_isSlot l D cI cZ qm n S P x sl (hn1) (hn5) (hS1) (hS4) (hP5) (hP64)) H.size) (cwV 1 hts (gV wd490 wd492 sl_Model_isSlot wd7 wd493) rfl rfl rfl (by decide +kernel) ⟨Nat.le_of_ble_eq_true rfl, Nat.le_of_ble_eq_true rfl⟩) ⟨fb_PW, va_recv (q0 := 0) (ci := 5) hK hPc rfl rfl, pre_PW hK hPc hDc hZ⟩ rfl rfl hl.1 rfl (lv_room (Nat.le_of_ble_eq_true rfl)) dModel_tell_10 ⟨Nat.zero_le _, Nat.zero_le _⟩) hP hD hS hA [0, 1, 2, 3, 4, 5, 6, 7, 8, 9, 10, 11, 12, 13, 14, 15, 16, 17, 18, 19, 20] [] rfl rfl (by decide) (by decide) (fun r w1 H locs hw hP hD hS => ?_)
    rcases hw with ⟨rfl, h10, rfl⟩ | ⟨rfl, h10, rfl⟩
    · have hP : va_P D vwCl (wM qm cI cZ n S P x) H := hP
      have hD : va_D A (wM qm cI cZ n S P x) := hD
      obtain ⟨t, ht, rfl⟩ := okN_of (show S < 2 ^ 31 by omega) h10
      refine lv_if_eq (tgt := 29) hx hb dModel_tell_13 (by decide) (fun h9 => absurd h9 (by decide)) (fun _ => ?_)
      refine lv_aload_n hx hb dModel_tell_16 rfl (lv_at hl 0 rfl) ?_
      refine va_get (D := D) (ci := 5) (v := .ref (qm 20)) (C := RModel) (T := TModel) (N := 25) hx hb hts (fun w h => mc (uModel_in w h)) hown hK hP 0 rfl rfl 22 (by decide) (hts _ (mc wd427)) (fun _ h9 => h9) rfl dModel_tell_17 ?_
      refine lv_iconst (v := nI 4) hx hb dModel_tell_20 (by decide) ?_
      refine lv_iload_n hx hb dModel_tell_21 rfl (lv_at hl 1 rfl) ?_
      refine lv_imul hx hb dModel_tell_22 ?_
      refine lv_topi (nm_r ((pk_mul _ _).trans (congrArg nI (Nat.mul_comm _ _))) ?_)
      refine lv_iload_n hx hb dModel_tell_23 rfl (lv_at hl 2 rfl) ?_
      refine lv_iadd hx hb dModel_tell_24 ?_
      refine lv_topi (nm_r (nI_add _ _) ?_)
      refine ka_ld (v := x.1 11 a t) hx hb hK hP 20 0 rfl rfl (by omega) (by omega) (sq_at (by omega)) dModel_tell_25 ?_
      refine lv_if_ne (tgt := 31) hx hb dModel_tell_26 (by decide) (fun c26 => ?_) (fun c26 => ?_)
      · have hok : okN (nI a) n ∧ okN (nI t) S ∧ x.1 11 (ix (nI a)) (ix (nI t)) ≠ 0 := ⟨h2, h10, by rw [ix_nI ha (by omega), ix_nI ht (by omega)]; exact c26⟩
        refine lv_aload_n hx hb dModel_tell_31 rfl (lv_at hl 0 rfl) ?_
        refine va_get (D := D) (ci := 5) (v := .ref (qm 1)) (C := RModel) (T := TModel) (N := 25) hx hb hts (fun w h => mc (uModel_in w h)) hown hK hP 0 rfl rfl 3 (by decide) (hts _ (mc wd408)) (fun _ h9 => h9) rfl dModel_tell_32 ?_
        refine lv_iload_n hx hb dModel_tell_35 rfl (lv_at hl 1 rfl) ?_
        refine ka_zld (v := x.1 13 a 0) hx hb hK hP 1 1 rfl rfl (by omega) (by omega) rfl dModel_tell_36 ?_
        refine lv_if_eq (tgt := 43) hx hb dModel_tell_37 (by decide) (fun c37 => ?_) (fun c37 => ?_)
        · refine lv_aload_n hx hb dModel_tell_43 rfl (lv_at hl 0 rfl) ?_
          have hPc := hP.sub (ws' := (wM qm cI cZ n S P x)) [0, 1, 2, 3, 4, 5, 6, 7, 8, 9, 10, 11, 12, 13, 14, 15, 16, 17, 18, 19, 20] rfl
          have hDc := hD.sub (ws' := (wM qm cI cZ n S P x)) [0, 1, 2, 3, 4, 5, 6, 7, 8, 9, 10, 11, 12, 13, 14, 15, 16, 17, 18, 19, 20] (by decide) rfl
          refine kx_i (va_runV (As := []) (rest := []) ⟨hx, hb, hml, hown, hts⟩ ((m_empty l D cI cZ qm n S P x (hn1) (hn5) (hS1) (hS4) (hP5) (hP64)) H.size) (cwV 0 hts (gV wd494 wd496 sl_Model_empty wd7 wd497) rfl rfl rfl (by decide +kernel) ⟨Nat.le_of_ble_eq_true rfl, Nat.le_of_ble_eq_true rfl⟩) ⟨fb_PW, va_recv (q0 := 0) (ci := 5) hK hPc rfl rfl, pre_PW hK hPc hDc hZ⟩ rfl rfl hl.1 rfl (lv_room (Nat.le_of_ble_eq_true rfl)) dModel_tell_44 ⟨Nat.zero_le _, Nat.zero_le _⟩) hP hD hS hA [0, 1, 2, 3, 4, 5, 6, 7, 8, 9, 10, 11, 12, 13, 14, 15, 16, 17, 18, 19, 20] [] rfl rfl (by decide) (by decide) (fun r w1 H locs hw hP hD hS => ?_)
          obtain ⟨rfl, rfl⟩ := hw
          have hP : va_P D vwCl (wM qm cI cZ n S P x) H := hP
          have hD : va_D A (wM qm cI cZ n S P x) := hD
          refine lv_aload_n hx hb dModel_tell_47 rfl (lv_at hl 0 rfl) ?_
          refine va_get (D := D) (ci := 5) (v := .int (nI n)) (C := RModel) (T := TModel) (N := 25) hx hb hts (fun w h => mc (uModel_in w h)) hown hK hP 0 rfl rfl 0 (by decide) (hts _ (mc wd405)) (fun _ h9 => h9) rfl dModel_tell_48 ?_
          refine lv_icmp_ge (tgt := 57) hx hb dModel_tell_51 (by decide) (fun c51 => ?_) (fun c51 => ?_)
          · have hfl : ¬ P - cntx P x < n := fun q => absurd c51 (nI_ge q (by omega))
            refine lv_aload_n hx hb dModel_tell_57 rfl (lv_at hl 0 rfl) ?_
            refine lv_iconst (v := nI 5) hx hb dModel_tell_58 (by decide) ?_
            refine lv_iload_n hx hb dModel_tell_59 rfl (lv_at hl 1 rfl) ?_
            refine lv_iload_n hx hb dModel_tell_60 rfl (lv_at hl 2 rfl) ?_
            refine lv_iconst (v := (-1)) hx hb dModel_tell_61 (by decide) ?_
            refine lv_aload_n hx hb dModel_tell_62 rfl (lv_at hl 0 rfl) ?_
            refine va_get (D := D) (ci := 5) (v := .ref (qm 20)) (C := RModel) (T := TModel) (N := 25) hx hb hts (fun w h => mc (uModel_in w h)) hown hK hP 0 rfl rfl 22 (by decide) (hts _ (mc wd427)) (fun _ h9 => h9) rfl dModel_tell_63 ?_
            refine lv_iconst (v := nI 4) hx hb dModel_tell_66 (by decide) ?_
            refine lv_iload_n hx hb dModel_tell_67 rfl (lv_at hl 1 rfl) ?_
            refine lv_imul hx hb dModel_tell_68 ?_
            refine lv_topi (nm_r ((pk_mul _ _).trans (congrArg nI (Nat.mul_comm _ _))) ?_)
            refine lv_iload_n hx hb dModel_tell_69 rfl (lv_at hl 2 rfl) ?_
            refine lv_iadd hx hb dModel_tell_70 ?_
            refine lv_topi (nm_r (nI_add _ _) ?_)
            refine ka_ld (v := x.1 11 a t) hx hb hK hP 20 0 rfl rfl (by omega) (by omega) (sq_at (by omega)) dModel_tell_71 ?_
            have hPc := hP.sub (ws' := (wM qm cI cZ n S P x)) [0, 1, 2, 3, 4, 5, 6, 7, 8, 9, 10, 11, 12, 13, 14, 15, 16, 17, 18, 19, 20] rfl
            have hDc := hD.sub (ws' := (wM qm cI cZ n S P x)) [0, 1, 2, 3, 4, 5, 6, 7, 8, 9, 10, 11, 12, 13, 14, 15, 16, 17, 18, 19, 20] (by decide) rfl
            refine kx_v (va_runV (As := [.int (nI 5), .int (nI a), .int (nI t), .int (-1), .int (x.1 11 a t)]) (rest := []) ⟨hx, hb, hml, hown, hts⟩ ((m_sendAll l D cI cZ qm n S P x (nI 5) (nI a) (nI t) (-1) (x.1 11 a t) (hn1) (hn5) (hS1) (hS4) (hP5) (hP64) (hIn.1) (fun j hj => ⟨5, a, j, t, by decide, by decide, ha, hj, ht, rfl, rfl, rfl, rfl, hIn.2.2.1.2.2.2.2 a t⟩) (by have h7 : cntx P x ≤ P := cnt_le _ _; omega)) H.size) (cwV 5 hts (gV wd498 wd500 sl_Model_sendAll wd7 wd501) rfl rfl rfl (by decide +kernel) ⟨Nat.le_of_ble_eq_true rfl, Nat.le_of_ble_eq_true rfl⟩) ⟨fb_PW, va_recv (q0 := 0) (ci := 5) hK hPc rfl rfl, pre_PW hK hPc hDc hZ⟩ rfl rfl hl.1 rfl (lv_room (Nat.le_of_ble_eq_true rfl)) dModel_tell_72 ⟨Nat.zero_le _, Nat.zero_le _⟩) hP hD hS hA [0, 1, 2, 3, 4, 5, 6, 7, 8, 9, 10, 11, 12, 13, 14, 15, 16, 17, 18, 19, 20] [] rfl rfl (by decide) (by decide) (fun w1 H locs hw hP hD hS => ?_)
            obtain rfl := hw
            have hP : va_P D vwCl (wM qm cI cZ n S P (sendA P x (nI 5) (nI a) (nI t) (-1) (x.1 11 a t) n)) H := hP
            have hD : va_D A (wM qm cI cZ n S P (sendA P x (nI 5) (nI a) (nI t) (-1) (x.1 11 a t) n)) := hD
            refine lv_aload_n hx hb dModel_tell_75 rfl (lv_at hl 0 rfl) ?_
            refine va_get (D := D) (ci := 5) (v := .ref (qm 20)) (C := RModel) (T := TModel) (N := 25) hx hb hts (fun w h => mc (uModel_in w h)) hown hK hP 0 rfl rfl 22 (by decide) (hts _ (mc wd427)) (fun _ h9 => h9) rfl dModel_tell_76 ?_
            refine lv_iconst (v := nI 4) hx hb dModel_tell_79 (by decide) ?_
            refine lv_iload_n hx hb dModel_tell_80 rfl (lv_at hl 1 rfl) ?_
            refine lv_imul hx hb dModel_tell_81 ?_
            refine lv_topi (nm_r ((pk_mul _ _).trans (congrArg nI (Nat.mul_comm _ _))) ?_)
            refine lv_iload_n hx hb dModel_tell_82 rfl (lv_at hl 2 rfl) ?_
            refine lv_iadd hx hb dModel_tell_83 ?_
            refine lv_topi (nm_r (nI_add _ _) ?_)
            refine ka_ld (v := x.1 11 a t) hx hb hK hP 20 0 rfl rfl (by omega) (by omega) (by rw [sendA_o (by decide)]; exact sq_at (by omega)) dModel_tell_84 ?_
            exact W.iret (v := x.1 11 a t) hx hb hr (fun t9 ht9 hW9 => ⟨⟨x.1 11 a t, (wM qm cI cZ n S P (sendA P x (nI 5) (nI a) (nI t) (-1) (x.1 11 a t) n)), rfl, fin3 (by unfold sTell; rw [if_pos hok, ix_nI ha (by omega), ix_nI ht (by omega), if_neg (fun q => q c37), if_neg hfl]; try rfl), by rw [ht9]; exact hP, va_K.moved hW9.alike hK, hD⟩, hS.F ht9⟩) hS.2.2 dModel_tell_85
          · have hfl : P - cntx P x < n := Nat.lt_of_not_le (fun q => c51 (nI_le q (by omega)))
            refine lv_bipush (v := (-4)) hx hb dModel_tell_54 (by decide) ?_
            exact W.iret (v := (-4)) hx hb hr (fun t9 ht9 hW9 => ⟨⟨(-4), (wM qm cI cZ n S P x), rfl, fin3 (by unfold sTell; rw [if_pos hok, ix_nI ha (by omega), ix_nI ht (by omega), if_neg (fun q => q c37), if_pos hfl]; try rfl), by rw [ht9]; exact hP, va_K.moved hW9.alike hK, hD⟩, hS.F ht9⟩) hS.2.2 dModel_tell_56
        · refine lv_bipush (v := (-2)) hx hb dModel_tell_40 (by decide) ?_
          exact W.iret (v := (-2)) hx hb hr (fun t9 ht9 hW9 => ⟨⟨(-2), (wM qm cI cZ n S P x), rfl, fin3 (by unfold sTell; rw [if_pos hok, ix_nI ha (by omega), ix_nI ht (by omega), if_pos c37]; try rfl), by rw [ht9]; exact hP, va_K.moved hW9.alike hK, hD⟩, hS.F ht9⟩) hS.2.2 dModel_tell_42
      · refine lv_iconst (v := (-1)) hx hb dModel_tell_29 (by decide) ?_
        exact W.iret (v := (-1)) hx hb hr (fun t9 ht9 hW9 => ⟨⟨(-1), (wM qm cI cZ n S P x), rfl, fin3 (if_neg (fun h => h.2.2 (by rw [ix_nI ha (by omega), ix_nI ht (by omega)]; exact c26))), by rw [ht9]; exact hP, va_K.moved hW9.alike hK, hD⟩, hS.F ht9⟩) hS.2.2 dModel_tell_30
    · have hP : va_P D vwCl (wM qm cI cZ n S P x) H := hP
      have hD : va_D A (wM qm cI cZ n S P x) := hD
      refine lv_if_eq (tgt := 29) hx hb dModel_tell_13 (by decide) (fun _ => ?_) (fun h9 => absurd (by decide) h9)
      refine lv_iconst (v := (-1)) hx hb dModel_tell_29 (by decide) ?_
      exact W.iret (v := (-1)) hx hb hr (fun t9 ht9 hW9 => ⟨⟨(-1), (wM qm cI cZ n S P x), rfl, fin3 (if_neg (fun h => h10 h.2.1)), by rw [ht9]; exact hP, va_K.moved hW9.alike hK, hD⟩, hS.F ht9⟩) hS.2.2 dModel_tell_30
  · have hP : va_P D vwCl (wM qm cI cZ n S P x) H := hP
    have hD : va_D A (wM qm cI cZ n S P x) := hD
    refine lv_if_eq (tgt := 29) hx hb dModel_tell_5 (by decide) (fun _ => ?_) (fun h9 => absurd (by decide) h9)
    refine lv_iconst (v := (-1)) hx hb dModel_tell_29 (by decide) ?_
    exact W.iret (v := (-1)) hx hb hr (fun t9 ht9 hW9 => ⟨⟨(-1), (wM qm cI cZ n S P x), rfl, fin3 (if_neg (fun h => h2 h.1)), by rw [ht9]; exact hP, va_K.moved hW9.alike hK, hD⟩, hS.F ht9⟩) hS.2.2 dModel_tell_30
theorem dModel_learned_0 : decode cModel_learned 0 = .ok (.aload_n 0, 1) := by decide +kernel
theorem dModel_learned_1 : decode cModel_learned 1 = .ok (.iload_n 1, 1) := by decide +kernel
theorem dModel_learned_2 : decode cModel_learned 2 = .ok (.invokevirtual 85, 3) := by decide +kernel
theorem dModel_learned_5 : decode cModel_learned 5 = .ok (.ifCond .eq 24, 3) := by decide +kernel
theorem dModel_learned_8 : decode cModel_learned 8 = .ok (.aload_n 0, 1) := by decide +kernel
theorem dModel_learned_9 : decode cModel_learned 9 = .ok (.iload_n 2, 1) := by decide +kernel
theorem dModel_learned_10 : decode cModel_learned 10 = .ok (.invokevirtual 89, 3) := by decide +kernel
theorem dModel_learned_13 : decode cModel_learned 13 = .ok (.ifCond .eq 16, 3) := by decide +kernel
theorem dModel_learned_16 : decode cModel_learned 16 = .ok (.aload_n 0, 1) := by decide +kernel
theorem dModel_learned_17 : decode cModel_learned 17 = .ok (.getfield 68, 3) := by decide +kernel
theorem dModel_learned_20 : decode cModel_learned 20 = .ok (.iconst 4, 1) := by decide +kernel
theorem dModel_learned_21 : decode cModel_learned 21 = .ok (.iload_n 1, 1) := by decide +kernel
theorem dModel_learned_22 : decode cModel_learned 22 = .ok (.imul, 1) := by decide +kernel
theorem dModel_learned_23 : decode cModel_learned 23 = .ok (.iload_n 2, 1) := by decide +kernel
theorem dModel_learned_24 : decode cModel_learned 24 = .ok (.iadd, 1) := by decide +kernel
theorem dModel_learned_25 : decode cModel_learned 25 = .ok (.iaload, 1) := by decide +kernel
theorem dModel_learned_26 : decode cModel_learned 26 = .ok (.goto 4, 3) := by decide +kernel
theorem dModel_learned_29 : decode cModel_learned 29 = .ok (.iconst (-1), 1) := by decide +kernel
theorem dModel_learned_30 : decode cModel_learned 30 = .ok (.ireturn, 1) := by decide +kernel
set_option maxRecDepth 100000 in
set_option maxHeartbeats 4000000 in
theorem m_learned (l : Launch) (D : va_G) (cI cZ : ClassId) (qm : Nat → Nat) (n : Nat) (S : Nat) (P : Nat) (x : St) (nd : Int32) (sl : Int32) (hn1 : 1 ≤ n) (hn5 : n ≤ 5) (hS1 : 1 ≤ S) (hS4 : S ≤ 4) (hP5 : 5 ≤ P) (hP64 : P ≤ 64) : MI l D [(cI, .int), (cZ, .boolean)] yModel_learned wsModel_learned ({ frames := 1, cells := 0, slots := 0, locals := 21 }) [.ref (qm 0), .int nd, .int sl] (wM qm cI cZ n S P x) (fun r w => r = aLearned n S x nd sl ∧ w = (wM qm cI cZ n S P x)) := by
  intro sz
  refine Met.ofW (cc := cModel_learned) (maxL := 3) (ret := (Option.some .int)) (by decide) rfl ?_
  intro p e s m args below meth c s₁ B hml hv
  obtain ⟨rfl, hsz, hP, hK, hD0, hZ⟩ := hv
  have hx := B.exec
  have hb := B.bytes
  have hr := B.returns
  have hts := atoms_spec (ws := wsModel_learned) B.pre
  have hown : s.vm.findClass RModel = some m.cls := findClass_of_methodNamed B.named
  have hlocks := B.notSynchronized
  subst hsz
  have hD := hD0.self (sz := s.heap.size)
  generalize hAe : va_A (wM qm cI cZ n S P x) s.heap.size = A at hD ⊢
  have hA : ∀ q : Nat, s.heap.size ≤ q → A q := fun q h => by rw [← hAe]; exact Or.inr h
  have hS : va_S A s.heap s.heap [] := va_S.rf
  have hP : va_P D vwCl (wM qm cI cZ n S P x) s.heap := hP
  have hl := lv_entry ([.ref (qm 0), .int nd, .int sl]) (n := 3) (Nat.le_of_ble_eq_true rfl)
  rw [lg_entry_eq]
  generalize (lg_sl ([.ref (qm 0), .int nd, .int sl]) ++ List.replicate (3 - (lg_sl ([.ref (qm 0), .int nd, .int sl])).length) Slot.unset).toArray = ls at hl ⊢
  have hl : lv_has ls 3 [(0, .ref (qm 0)), (1, .int nd), (2, .int sl)] := hl
  refine lv_aload_n hx hb dModel_learned_0 rfl (lv_at hl 0 rfl) ?_
  refine lv_iload_n hx hb dModel_learned_1 rfl (lv_at hl 1 rfl) ?_
  have hPc := hP.sub (ws' := (wM qm cI cZ n S P x)) [0, 1, 2, 3, 4, 5, 6, 7, 8, 9, 10, 11, 12, 13, 14, 15, 16, 17, 18, 19, 20] rfl
  have hDc := hD.sub (ws' := (wM qm cI cZ n S P x)) [0, 1, 2, 3, 4, 5, 6, 7, 8, 9, 10, 11, 12, 13, 14, 15, 16, 17, 18, 19, 20] (by decide) rfl
  refine kx_i (va_runV (As := [.int nd]) (rest := []) ⟨hx, hb, hml, hown, hts⟩ ((m_isNode l D cI cZ qm n S P x nd (hn1) (hn5) (hS1) (hS4) (hP5) (hP64)) s.heap.size) (cwV 1 hts (gV wd486 wd488 sl_Model_isNode wd7 wd489) rfl rfl rfl (by decide +kernel) ⟨Nat.le_of_ble_eq_true rfl, Nat.le_of_ble_eq_true rfl⟩) ⟨fb_PW, va_recv (q0 := 0) (ci := 5) hK hPc rfl rfl, pre_PW hK hPc hDc hZ⟩ rfl rfl hl.1 rfl (lv_room (Nat.le_of_ble_eq_true rfl)) dModel_learned_2 ⟨Nat.zero_le _, Nat.zero_le _⟩) hP hD hS hA [0, 1, 2, 3, 4, 5, 6, 7, 8, 9, 10, 11, 12, 13, 14, 15, 16, 17, 18, 19, 20] [] rfl rfl (by decide) (by decide) (fun r w1 H locs hw hP hD hS => ?_)
  rcases hw with ⟨rfl, h2, rfl⟩ | ⟨rfl, h2, rfl⟩
  · have hP : va_P D vwCl (wM qm cI cZ n S P x) H := hP
    have hD : va_D A (wM qm cI cZ n S P x) := hD
    obtain ⟨a, ha, rfl⟩ := okN_of (show n < 2 ^ 31 by omega) h2
    refine lv_if_eq (tgt := 29) hx hb dModel_learned_5 (by decide) (fun h9 => absurd h9 (by decide)) (fun _ => ?_)
    refine lv_aload_n hx hb dModel_learned_8 rfl (lv_at hl 0 rfl) ?_
    refine lv_iload_n hx hb dModel_learned_9 rfl (lv_at hl 2 rfl) ?_
    have hPc := hP.sub (ws' := (wM qm cI cZ n S P x)) [0, 1, 2, 3, 4, 5, 6, 7, 8, 9, 10, 11, 12, 13, 14, 15, 16, 17, 18, 19, 20] rfl
    have hDc := hD.sub (ws' := (wM qm cI cZ n S P x)) [0, 1, 2, 3, 4, 5, 6, 7, 8, 9, 10, 11, 12, 13, 14, 15, 16, 17, 18, 19, 20] (by decide) rfl
    refine kx_i (va_runV (As := [.int sl]) (rest := []) ⟨hx, hb, hml, hown, hts⟩ ((m_isSlot l D cI cZ qm n S P x sl (hn1) (hn5) (hS1) (hS4) (hP5) (hP64)) H.size) (cwV 1 hts (gV wd490 wd492 sl_Model_isSlot wd7 wd493) rfl rfl rfl (by decide +kernel) ⟨Nat.le_of_ble_eq_true rfl, Nat.le_of_ble_eq_true rfl⟩) ⟨fb_PW, va_recv (q0 := 0) (ci := 5) hK hPc rfl rfl, pre_PW hK hPc hDc hZ⟩ rfl rfl hl.1 rfl (lv_room (Nat.le_of_ble_eq_true rfl)) dModel_learned_10 ⟨Nat.zero_le _, Nat.zero_le _⟩) hP hD hS hA [0, 1, 2, 3, 4, 5, 6, 7, 8, 9, 10, 11, 12, 13, 14, 15, 16, 17, 18, 19, 20] [] rfl rfl (by decide) (by decide) (fun r w1 H locs hw hP hD hS => ?_)
    rcases hw with ⟨rfl, h10, rfl⟩ | ⟨rfl, h10, rfl⟩
    · have hP : va_P D vwCl (wM qm cI cZ n S P x) H := hP
      have hD : va_D A (wM qm cI cZ n S P x) := hD
      obtain ⟨t, ht, rfl⟩ := okN_of (show S < 2 ^ 31 by omega) h10
      refine lv_if_eq (tgt := 29) hx hb dModel_learned_13 (by decide) (fun h9 => absurd h9 (by decide)) (fun _ => ?_)
      refine lv_aload_n hx hb dModel_learned_16 rfl (lv_at hl 0 rfl) ?_
      refine va_get (D := D) (ci := 5) (v := .ref (qm 20)) (C := RModel) (T := TModel) (N := 25) hx hb hts (fun w h => mc (uModel_in w h)) hown hK hP 0 rfl rfl 22 (by decide) (hts _ (mc wd427)) (fun _ h9 => h9) rfl dModel_learned_17 ?_
      refine lv_iconst (v := nI 4) hx hb dModel_learned_20 (by decide) ?_
      refine lv_iload_n hx hb dModel_learned_21 rfl (lv_at hl 1 rfl) ?_
      refine lv_imul hx hb dModel_learned_22 ?_
      refine lv_topi (nm_r ((pk_mul _ _).trans (congrArg nI (Nat.mul_comm _ _))) ?_)
      refine lv_iload_n hx hb dModel_learned_23 rfl (lv_at hl 2 rfl) ?_
      refine lv_iadd hx hb dModel_learned_24 ?_
      refine lv_topi (nm_r (nI_add _ _) ?_)
      refine ka_ld (v := x.1 11 a t) hx hb hK hP 20 0 rfl rfl (by omega) (by omega) (sq_at (by omega)) dModel_learned_25 ?_
      refine lv_goto (tgt := 30) hx hb dModel_learned_26 (by decide) ?_
      exact W.iret (v := x.1 11 a t) hx hb hr (fun t9 ht9 hW9 => ⟨⟨x.1 11 a t, (wM qm cI cZ n S P x), rfl, ⟨by unfold aLearned; rw [if_pos ⟨h2, h10⟩, ix_nI ha (by omega), ix_nI ht (by omega)], rfl⟩, by rw [ht9]; exact hP, va_K.moved hW9.alike hK, hD⟩, hS.F ht9⟩) hS.2.2 dModel_learned_30
    · have hP : va_P D vwCl (wM qm cI cZ n S P x) H := hP
      have hD : va_D A (wM qm cI cZ n S P x) := hD
      refine lv_if_eq (tgt := 29) hx hb dModel_learned_13 (by decide) (fun _ => ?_) (fun h9 => absurd (by decide) h9)
      refine lv_iconst (v := (-1)) hx hb dModel_learned_29 (by decide) ?_
      exact W.iret (v := (-1)) hx hb hr (fun t9 ht9 hW9 => ⟨⟨(-1), (wM qm cI cZ n S P x), rfl, ⟨by unfold aLearned; rw [if_neg (fun h => h10 h.2)], rfl⟩, by rw [ht9]; exact hP, va_K.moved hW9.alike hK, hD⟩, hS.F ht9⟩) hS.2.2 dModel_learned_30
  · have hP : va_P D vwCl (wM qm cI cZ n S P x) H := hP
    have hD : va_D A (wM qm cI cZ n S P x) := hD
    refine lv_if_eq (tgt := 29) hx hb dModel_learned_5 (by decide) (fun _ => ?_) (fun h9 => absurd (by decide) h9)
    refine lv_iconst (v := (-1)) hx hb dModel_learned_29 (by decide) ?_
    exact W.iret (v := (-1)) hx hb hr (fun t9 ht9 hW9 => ⟨⟨(-1), (wM qm cI cZ n S P x), rfl, ⟨by unfold aLearned; rw [if_neg (fun h => h2 h.1)], rfl⟩, by rw [ht9]; exact hP, va_K.moved hW9.alike hK, hD⟩, hS.F ht9⟩) hS.2.2 dModel_learned_30
theorem dModel_acceptor_0 : decode cModel_acceptor 0 = .ok (.aload_n 0, 1) := by decide +kernel
theorem dModel_acceptor_1 : decode cModel_acceptor 1 = .ok (.iload_n 1, 1) := by decide +kernel
theorem dModel_acceptor_2 : decode cModel_acceptor 2 = .ok (.invokevirtual 85, 3) := by decide +kernel
theorem dModel_acceptor_5 : decode cModel_acceptor 5 = .ok (.ifCond .eq 11, 3) := by decide +kernel
theorem dModel_acceptor_8 : decode cModel_acceptor 8 = .ok (.aload_n 0, 1) := by decide +kernel
theorem dModel_acceptor_9 : decode cModel_acceptor 9 = .ok (.iload_n 2, 1) := by decide +kernel
theorem dModel_acceptor_10 : decode cModel_acceptor 10 = .ok (.invokevirtual 89, 3) := by decide +kernel
theorem dModel_acceptor_13 : decode cModel_acceptor 13 = .ok (.ifCond .ne 5, 3) := by decide +kernel
theorem dModel_acceptor_16 : decode cModel_acceptor 16 = .ok (.iconst (-1), 1) := by decide +kernel
theorem dModel_acceptor_17 : decode cModel_acceptor 17 = .ok (.ireturn, 1) := by decide +kernel
theorem dModel_acceptor_18 : decode cModel_acceptor 18 = .ok (.iconst 4, 1) := by decide +kernel
theorem dModel_acceptor_19 : decode cModel_acceptor 19 = .ok (.iload_n 1, 1) := by decide +kernel
theorem dModel_acceptor_20 : decode cModel_acceptor 20 = .ok (.imul, 1) := by decide +kernel
theorem dModel_acceptor_21 : decode cModel_acceptor 21 = .ok (.iload_n 2, 1) := by decide +kernel
theorem dModel_acceptor_22 : decode cModel_acceptor 22 = .ok (.iadd, 1) := by decide +kernel
theorem dModel_acceptor_23 : decode cModel_acceptor 23 = .ok (.istore 4, 2) := by decide +kernel
theorem dModel_acceptor_25 : decode cModel_acceptor 25 = .ok (.iload_n 3, 1) := by decide +kernel
theorem dModel_acceptor_26 : decode cModel_acceptor 26 = .ok (.ifCond .ne 13, 3) := by decide +kernel
theorem dModel_acceptor_29 : decode cModel_acceptor 29 = .ok (.aload_n 0, 1) := by decide +kernel
theorem dModel_acceptor_30 : decode cModel_acceptor 30 = .ok (.getfield 53, 3) := by decide +kernel
theorem dModel_acceptor_33 : decode cModel_acceptor 33 = .ok (.iload 4, 2) := by decide +kernel
theorem dModel_acceptor_35 : decode cModel_acceptor 35 = .ok (.iaload, 1) := by decide +kernel
theorem dModel_acceptor_36 : decode cModel_acceptor 36 = .ok (.goto 34, 3) := by decide +kernel
theorem dModel_acceptor_39 : decode cModel_acceptor 39 = .ok (.iload_n 3, 1) := by decide +kernel
theorem dModel_acceptor_40 : decode cModel_acceptor 40 = .ok (.iconst 1, 1) := by decide +kernel
theorem dModel_acceptor_41 : decode cModel_acceptor 41 = .ok (.if_icmp .ne 13, 3) := by decide +kernel
theorem dModel_acceptor_44 : decode cModel_acceptor 44 = .ok (.aload_n 0, 1) := by decide +kernel
theorem dModel_acceptor_45 : decode cModel_acceptor 45 = .ok (.getfield 56, 3) := by decide +kernel
theorem dModel_acceptor_48 : decode cModel_acceptor 48 = .ok (.iload 4, 2) := by decide +kernel
theorem dModel_acceptor_50 : decode cModel_acceptor 50 = .ok (.iaload, 1) := by decide +kernel
theorem dModel_acceptor_51 : decode cModel_acceptor 51 = .ok (.goto 19, 3) := by decide +kernel
theorem dModel_acceptor_54 : decode cModel_acceptor 54 = .ok (.iload_n 3, 1) := by decide +kernel
theorem dModel_acceptor_55 : decode cModel_acceptor 55 = .ok (.iconst 2, 1) := by decide +kernel
theorem dModel_acceptor_56 : decode cModel_acceptor 56 = .ok (.if_icmp .ne 13, 3) := by decide +kernel
theorem dModel_acceptor_59 : decode cModel_acceptor 59 = .ok (.aload_n 0, 1) := by decide +kernel
theorem dModel_acceptor_60 : decode cModel_acceptor 60 = .ok (.getfield 59, 3) := by decide +kernel
theorem dModel_acceptor_63 : decode cModel_acceptor 63 = .ok (.iload 4, 2) := by decide +kernel
theorem dModel_acceptor_65 : decode cModel_acceptor 65 = .ok (.iaload, 1) := by decide +kernel
theorem dModel_acceptor_66 : decode cModel_acceptor 66 = .ok (.goto 4, 3) := by decide +kernel
theorem dModel_acceptor_69 : decode cModel_acceptor 69 = .ok (.iconst (-1), 1) := by decide +kernel
theorem dModel_acceptor_70 : decode cModel_acceptor 70 = .ok (.ireturn, 1) := by decide +kernel
set_option maxRecDepth 100000 in
set_option maxHeartbeats 4000000 in
theorem m_acceptor (l : Launch) (D : va_G) (cI cZ : ClassId) (qm : Nat → Nat) (n : Nat) (S : Nat) (P : Nat) (x : St) (nd : Int32) (sl : Int32) (wt : Int32) (hn1 : 1 ≤ n) (hn5 : n ≤ 5) (hS1 : 1 ≤ S) (hS4 : S ≤ 4) (hP5 : 5 ≤ P) (hP64 : P ≤ 64) : MI l D [(cI, .int), (cZ, .boolean)] yModel_acceptor wsModel_acceptor ({ frames := 1, cells := 0, slots := 0, locals := 21 }) [.ref (qm 0), .int nd, .int sl, .int wt] (wM qm cI cZ n S P x) (fun r w => r = aAcc n S x nd sl wt ∧ w = (wM qm cI cZ n S P x)) := by
  intro sz
  refine Met.ofW (cc := cModel_acceptor) (maxL := 5) (ret := (Option.some .int)) (by decide) rfl ?_
  intro p e s m args below meth c s₁ B hml hv
  obtain ⟨rfl, hsz, hP, hK, hD0, hZ⟩ := hv
  have hx := B.exec
  have hb := B.bytes
  have hr := B.returns
  have hts := atoms_spec (ws := wsModel_acceptor) B.pre
  have hown : s.vm.findClass RModel = some m.cls := findClass_of_methodNamed B.named
  have hlocks := B.notSynchronized
  subst hsz
  have hD := hD0.self (sz := s.heap.size)
  generalize hAe : va_A (wM qm cI cZ n S P x) s.heap.size = A at hD ⊢
  have hA : ∀ q : Nat, s.heap.size ≤ q → A q := fun q h => by rw [← hAe]; exact Or.inr h
  have hS : va_S A s.heap s.heap [] := va_S.rf
  have hP : va_P D vwCl (wM qm cI cZ n S P x) s.heap := hP
  have hl := lv_entry ([.ref (qm 0), .int nd, .int sl, .int wt]) (n := 5) (Nat.le_of_ble_eq_true rfl)
  rw [lg_entry_eq]
  generalize (lg_sl ([.ref (qm 0), .int nd, .int sl, .int wt]) ++ List.replicate (5 - (lg_sl ([.ref (qm 0), .int nd, .int sl, .int wt])).length) Slot.unset).toArray = ls at hl ⊢
  have hl : lv_has ls 5 [(0, .ref (qm 0)), (1, .int nd), (2, .int sl), (3, .int wt)] := hl
  refine lv_aload_n hx hb dModel_acceptor_0 rfl (lv_at hl 0 rfl) ?_
  refine lv_iload_n hx hb dModel_acceptor_1 rfl (lv_at hl 1 rfl) ?_
  have hPc := hP.sub (ws' := (wM qm cI cZ n S P x)) [0, 1, 2, 3, 4, 5, 6, 7, 8, 9, 10, 11, 12, 13, 14, 15, 16, 17, 18, 19, 20] rfl
  have hDc := hD.sub (ws' := (wM qm cI cZ n S P x)) [0, 1, 2, 3, 4, 5, 6, 7, 8, 9, 10, 11, 12, 13, 14, 15, 16, 17, 18, 19, 20] (by decide) rfl
  refine kx_i (va_runV (As := [.int nd]) (rest := []) ⟨hx, hb, hml, hown, hts⟩ ((m_isNode l D cI cZ qm n S P x nd (hn1) (hn5) (hS1) (hS4) (hP5) (hP64)) s.heap.size) (cwV 1 hts (gV wd486 wd488 sl_Model_isNode wd7 wd489) rfl rfl rfl (by decide +kernel) ⟨Nat.le_of_ble_eq_true rfl, Nat.le_of_ble_eq_true rfl⟩) ⟨fb_PW, va_recv (q0 := 0) (ci := 5) hK hPc rfl rfl, pre_PW hK hPc hDc hZ⟩ rfl rfl hl.1 rfl (lv_room (Nat.le_of_ble_eq_true rfl)) dModel_acceptor_2 ⟨Nat.zero_le _, Nat.zero_le _⟩) hP hD hS hA [0, 1, 2, 3, 4, 5, 6, 7, 8, 9, 10, 11, 12, 13, 14, 15, 16, 17, 18, 19, 20] [] rfl rfl (by decide) (by decide) (fun r w1 H locs hw hP hD hS => ?_)
  rcases hw with ⟨rfl, h2, rfl⟩ | ⟨rfl, h2, rfl⟩
  · have hP : va_P D vwCl (wM qm cI cZ n S P x) H := hP
    have hD : va_D A (wM qm cI cZ n S P x) := hD
    obtain ⟨a, ha, rfl⟩ := okN_of (show n < 2 ^ 31 by omega) h2
    refine lv_if_eq (tgt := 16) hx hb dModel_acceptor_5 (by decide) (fun h9 => absurd h9 (by decide)) (fun _ => ?_)
    refine lv_aload_n hx hb dModel_acceptor_8 rfl (lv_at hl 0 rfl) ?_
    refine lv_iload_n hx hb dModel_acceptor_9 rfl (lv_at hl 2 rfl) ?_
    have hPc := hP.sub (ws' := (wM qm cI cZ n S P x)) [0, 1, 2, 3, 4, 5, 6, 7, 8, 9, 10, 11, 12, 13, 14, 15, 16, 17, 18, 19, 20] rfl
    have hDc := hD.sub (ws' := (wM qm cI cZ n S P x)) [0, 1, 2, 3, 4, 5, 6, 7, 8, 9, 10, 11, 12, 13, 14, 15, 16, 17, 18, 19, 20] (by decide) rfl
    refine kx_i (va_runV (As := [.int sl]) (rest := []) ⟨hx, hb, hml, hown, hts⟩ ((m_isSlot l D cI cZ qm n S P x sl (hn1) (hn5) (hS1) (hS4) (hP5) (hP64)) H.size) (cwV 1 hts (gV wd490 wd492 sl_Model_isSlot wd7 wd493) rfl rfl rfl (by decide +kernel) ⟨Nat.le_of_ble_eq_true rfl, Nat.le_of_ble_eq_true rfl⟩) ⟨fb_PW, va_recv (q0 := 0) (ci := 5) hK hPc rfl rfl, pre_PW hK hPc hDc hZ⟩ rfl rfl hl.1 rfl (lv_room (Nat.le_of_ble_eq_true rfl)) dModel_acceptor_10 ⟨Nat.zero_le _, Nat.zero_le _⟩) hP hD hS hA [0, 1, 2, 3, 4, 5, 6, 7, 8, 9, 10, 11, 12, 13, 14, 15, 16, 17, 18, 19, 20] [] rfl rfl (by decide) (by decide) (fun r w1 H locs hw hP hD hS => ?_)
    rcases hw with ⟨rfl, h10, rfl⟩ | ⟨rfl, h10, rfl⟩
    · have hP : va_P D vwCl (wM qm cI cZ n S P x) H := hP
      have hD : va_D A (wM qm cI cZ n S P x) := hD
      obtain ⟨t, ht, rfl⟩ := okN_of (show S < 2 ^ 31 by omega) h10
      refine lv_if_ne (tgt := 18) hx hb dModel_acceptor_13 (by decide) (fun _ => ?_) (fun h9 => absurd h9 (by decide))
      refine lv_iconst (v := nI 4) hx hb dModel_acceptor_18 (by decide) ?_
      refine lv_iload_n hx hb dModel_acceptor_19 rfl (lv_at hl 1 rfl) ?_
      refine lv_imul hx hb dModel_acceptor_20 ?_
      refine lv_topi (nm_r ((pk_mul _ _).trans (congrArg nI (Nat.mul_comm _ _))) ?_)
      refine lv_iload_n hx hb dModel_acceptor_21 rfl (lv_at hl 2 rfl) ?_
      refine lv_iadd hx hb dModel_acceptor_22 ?_
      refine lv_topi (nm_r (nI_add _ _) ?_)
      refine lv_istore hx hb dModel_acceptor_23 hl (by decide) rfl (fun ls hl => ?_)
      have hl : lv_has ls 5 [(4, .int (nI (a * 4 + t))), (0, .ref (qm 0)), (1, .int (nI a)), (2, .int (nI t)), (3, .int wt)] := hl
      refine lv_iload_n hx hb dModel_acceptor_25 rfl (lv_at hl 4 rfl) ?_
      refine lv_if_ne (tgt := 39) hx hb dModel_acceptor_26 (by decide) (fun c26 => ?_) (fun c26 => ?_)
      · refine lv_iload_n hx hb dModel_acceptor_39 rfl (lv_at hl 4 rfl) ?_
        refine lv_iconst (v := nI 1) hx hb dModel_acceptor_40 (by decide) ?_
        refine lv_icmp_ne (tgt := 54) hx hb dModel_acceptor_41 (by decide) (fun c41 => ?_) (fun c41 => ?_)
        · refine lv_iload_n hx hb dModel_acceptor_54 rfl (lv_at hl 4 rfl) ?_
          refine lv_iconst (v := nI 2) hx hb dModel_acceptor_55 (by decide) ?_
          refine lv_icmp_ne (tgt := 69) hx hb dModel_acceptor_56 (by decide) (fun c56 => ?_) (fun c56 => ?_)
          · refine lv_iconst (v := (-1)) hx hb dModel_acceptor_69 (by decide) ?_
            exact W.iret (v := (-1)) hx hb hr (fun t9 ht9 hW9 => ⟨⟨(-1), (wM qm cI cZ n S P x), rfl, ⟨by unfold aAcc; rw [if_pos ⟨h2, h10⟩, ix_nI ha (by omega), ix_nI ht (by omega), if_neg (show ¬ wt = nI 0 from c26), if_neg c41, if_neg c56], rfl⟩, by rw [ht9]; exact hP, va_K.moved hW9.alike hK, hD⟩, hS.F ht9⟩) hS.2.2 dModel_acceptor_70
          · refine lv_aload_n hx hb dModel_acceptor_59 rfl (lv_at hl 1 rfl) ?_
            refine va_get (D := D) (ci := 5) (v := .ref (qm 17)) (C := RModel) (T := TModel) (N := 25) hx hb hts (fun w h => mc (uModel_in w h)) hown hK hP 0 rfl rfl 19 (by decide) (hts _ (mc wd424)) (fun _ h9 => h9) rfl dModel_acceptor_60 ?_
            refine lv_iload hx hb dModel_acceptor_63 (lv_at hl 0 rfl) ?_
            refine ka_ld (v := x.1 10 a t) hx hb hK hP 17 0 rfl rfl (by omega) (by omega) (sq_at (by omega)) dModel_acceptor_65 ?_
            refine lv_goto (tgt := 70) hx hb dModel_acceptor_66 (by decide) ?_
            exact W.iret (v := x.1 10 a t) hx hb hr (fun t9 ht9 hW9 => ⟨⟨x.1 10 a t, (wM qm cI cZ n S P x), rfl, ⟨by unfold aAcc; rw [if_pos ⟨h2, h10⟩, ix_nI ha (by omega), ix_nI ht (by omega), if_neg (show ¬ wt = nI 0 from c26), if_neg c41, if_pos c56], rfl⟩, by rw [ht9]; exact hP, va_K.moved hW9.alike hK, hD⟩, hS.F ht9⟩) hS.2.2 dModel_acceptor_70
        · refine lv_aload_n hx hb dModel_acceptor_44 rfl (lv_at hl 1 rfl) ?_
          refine va_get (D := D) (ci := 5) (v := .ref (qm 16)) (C := RModel) (T := TModel) (N := 25) hx hb hts (fun w h => mc (uModel_in w h)) hown hK hP 0 rfl rfl 18 (by decide) (hts _ (mc wd423)) (fun _ h9 => h9) rfl dModel_acceptor_45 ?_
          refine lv_iload hx hb dModel_acceptor_48 (lv_at hl 0 rfl) ?_
          refine ka_ld (v := x.1 9 a t) hx hb hK hP 16 0 rfl rfl (by omega) (by omega) (sq_at (by omega)) dModel_acceptor_50 ?_
          refine lv_goto (tgt := 70) hx hb dModel_acceptor_51 (by decide) ?_
          exact W.iret (v := x.1 9 a t) hx hb hr (fun t9 ht9 hW9 => ⟨⟨x.1 9 a t, (wM qm cI cZ n S P x), rfl, ⟨by unfold aAcc; rw [if_pos ⟨h2, h10⟩, ix_nI ha (by omega), ix_nI ht (by omega), if_neg (show ¬ wt = nI 0 from c26), if_pos c41], rfl⟩, by rw [ht9]; exact hP, va_K.moved hW9.alike hK, hD⟩, hS.F ht9⟩) hS.2.2 dModel_acceptor_70
      · refine lv_aload_n hx hb dModel_acceptor_29 rfl (lv_at hl 1 rfl) ?_
        refine va_get (D := D) (ci := 5) (v := .ref (qm 15)) (C := RModel) (T := TModel) (N := 25) hx hb hts (fun w h => mc (uModel_in w h)) hown hK hP 0 rfl rfl 17 (by decide) (hts _ (mc wd422)) (fun _ h9 => h9) rfl dModel_acceptor_30 ?_
        refine lv_iload hx hb dModel_acceptor_33 (lv_at hl 0 rfl) ?_
        refine ka_ld (v := x.1 8 a t) hx hb hK hP 15 0 rfl rfl (by omega) (by omega) (sq_at (by omega)) dModel_acceptor_35 ?_
        refine lv_goto (tgt := 70) hx hb dModel_acceptor_36 (by decide) ?_
        exact W.iret (v := x.1 8 a t) hx hb hr (fun t9 ht9 hW9 => ⟨⟨x.1 8 a t, (wM qm cI cZ n S P x), rfl, ⟨by unfold aAcc; rw [if_pos ⟨h2, h10⟩, ix_nI ha (by omega), ix_nI ht (by omega), if_pos (show wt = nI 0 from c26)], rfl⟩, by rw [ht9]; exact hP, va_K.moved hW9.alike hK, hD⟩, hS.F ht9⟩) hS.2.2 dModel_acceptor_70
    · have hP : va_P D vwCl (wM qm cI cZ n S P x) H := hP
      have hD : va_D A (wM qm cI cZ n S P x) := hD
      refine lv_if_ne (tgt := 18) hx hb dModel_acceptor_13 (by decide) (fun h9 => absurd (by decide) h9) (fun _ => ?_)
      refine lv_iconst (v := (-1)) hx hb dModel_acceptor_16 (by decide) ?_
      exact W.iret (v := (-1)) hx hb hr (fun t9 ht9 hW9 => ⟨⟨(-1), (wM qm cI cZ n S P x), rfl, ⟨by unfold aAcc; rw [if_neg (fun h => h10 h.2)], rfl⟩, by rw [ht9]; exact hP, va_K.moved hW9.alike hK, hD⟩, hS.F ht9⟩) hS.2.2 dModel_acceptor_17
  · have hP : va_P D vwCl (wM qm cI cZ n S P x) H := hP
    have hD : va_D A (wM qm cI cZ n S P x) := hD
    refine lv_if_eq (tgt := 16) hx hb dModel_acceptor_5 (by decide) (fun _ => ?_) (fun h9 => absurd (by decide) h9)
    refine lv_iconst (v := (-1)) hx hb dModel_acceptor_16 (by decide) ?_
    exact W.iret (v := (-1)) hx hb hr (fun t9 ht9 hW9 => ⟨⟨(-1), (wM qm cI cZ n S P x), rfl, ⟨by unfold aAcc; rw [if_neg (fun h => h2 h.1)], rfl⟩, by rw [ht9]; exact hP, va_K.moved hW9.alike hK, hD⟩, hS.F ht9⟩) hS.2.2 dModel_acceptor_17
theorem dModel_proposer_0 : decode cModel_proposer 0 = .ok (.aload_n 0, 1) := by decide +kernel
theorem dModel_proposer_1 : decode cModel_proposer 1 = .ok (.iload_n 1, 1) := by decide +kernel
theorem dModel_proposer_2 : decode cModel_proposer 2 = .ok (.invokevirtual 85, 3) := by decide +kernel
theorem dModel_proposer_5 : decode cModel_proposer 5 = .ok (.ifCond .eq 11, 3) := by decide +kernel
theorem dModel_proposer_8 : decode cModel_proposer 8 = .ok (.aload_n 0, 1) := by decide +kernel
theorem dModel_proposer_9 : decode cModel_proposer 9 = .ok (.iload_n 2, 1) := by decide +kernel
theorem dModel_proposer_10 : decode cModel_proposer 10 = .ok (.invokevirtual 89, 3) := by decide +kernel
theorem dModel_proposer_13 : decode cModel_proposer 13 = .ok (.ifCond .ne 5, 3) := by decide +kernel
theorem dModel_proposer_16 : decode cModel_proposer 16 = .ok (.iconst (-1), 1) := by decide +kernel
theorem dModel_proposer_17 : decode cModel_proposer 17 = .ok (.ireturn, 1) := by decide +kernel
theorem dModel_proposer_18 : decode cModel_proposer 18 = .ok (.iconst 4, 1) := by decide +kernel
theorem dModel_proposer_19 : decode cModel_proposer 19 = .ok (.iload_n 1, 1) := by decide +kernel
theorem dModel_proposer_20 : decode cModel_proposer 20 = .ok (.imul, 1) := by decide +kernel
theorem dModel_proposer_21 : decode cModel_proposer 21 = .ok (.iload_n 2, 1) := by decide +kernel
theorem dModel_proposer_22 : decode cModel_proposer 22 = .ok (.iadd, 1) := by decide +kernel
theorem dModel_proposer_23 : decode cModel_proposer 23 = .ok (.istore 4, 2) := by decide +kernel
theorem dModel_proposer_25 : decode cModel_proposer 25 = .ok (.aload_n 0, 1) := by decide +kernel
theorem dModel_proposer_26 : decode cModel_proposer 26 = .ok (.getfield 47, 3) := by decide +kernel
theorem dModel_proposer_29 : decode cModel_proposer 29 = .ok (.iload 4, 2) := by decide +kernel
theorem dModel_proposer_31 : decode cModel_proposer 31 = .ok (.iaload, 1) := by decide +kernel
theorem dModel_proposer_32 : decode cModel_proposer 32 = .ok (.ifCond .ge 13, 3) := by decide +kernel
theorem dModel_proposer_35 : decode cModel_proposer 35 = .ok (.aload_n 0, 1) := by decide +kernel
theorem dModel_proposer_36 : decode cModel_proposer 36 = .ok (.getfield 41, 3) := by decide +kernel
theorem dModel_proposer_39 : decode cModel_proposer 39 = .ok (.iload 4, 2) := by decide +kernel
theorem dModel_proposer_41 : decode cModel_proposer 41 = .ok (.iaload, 1) := by decide +kernel
theorem dModel_proposer_42 : decode cModel_proposer 42 = .ok (.goto 10, 3) := by decide +kernel
theorem dModel_proposer_45 : decode cModel_proposer 45 = .ok (.aload_n 0, 1) := by decide +kernel
theorem dModel_proposer_46 : decode cModel_proposer 46 = .ok (.getfield 50, 3) := by decide +kernel
theorem dModel_proposer_49 : decode cModel_proposer 49 = .ok (.iload 4, 2) := by decide +kernel
theorem dModel_proposer_51 : decode cModel_proposer 51 = .ok (.iaload, 1) := by decide +kernel
theorem dModel_proposer_52 : decode cModel_proposer 52 = .ok (.istore 5, 2) := by decide +kernel
theorem dModel_proposer_54 : decode cModel_proposer 54 = .ok (.iload_n 3, 1) := by decide +kernel
theorem dModel_proposer_55 : decode cModel_proposer 55 = .ok (.tableswitch 86 0 4 #[33, 41, 49, 60, 68], 33) := by decide +kernel
theorem dModel_proposer_88 : decode cModel_proposer 88 = .ok (.aload_n 0, 1) := by decide +kernel
theorem dModel_proposer_89 : decode cModel_proposer 89 = .ok (.getfield 38, 3) := by decide +kernel
theorem dModel_proposer_92 : decode cModel_proposer 92 = .ok (.iload 4, 2) := by decide +kernel
theorem dModel_proposer_94 : decode cModel_proposer 94 = .ok (.iaload, 1) := by decide +kernel
theorem dModel_proposer_95 : decode cModel_proposer 95 = .ok (.ireturn, 1) := by decide +kernel
theorem dModel_proposer_96 : decode cModel_proposer 96 = .ok (.aload_n 0, 1) := by decide +kernel
theorem dModel_proposer_97 : decode cModel_proposer 97 = .ok (.getfield 35, 3) := by decide +kernel
theorem dModel_proposer_100 : decode cModel_proposer 100 = .ok (.iload 4, 2) := by decide +kernel
theorem dModel_proposer_102 : decode cModel_proposer 102 = .ok (.iaload, 1) := by decide +kernel
theorem dModel_proposer_103 : decode cModel_proposer 103 = .ok (.ireturn, 1) := by decide +kernel
theorem dModel_proposer_104 : decode cModel_proposer 104 = .ok (.aload_n 0, 1) := by decide +kernel
theorem dModel_proposer_105 : decode cModel_proposer 105 = .ok (.getfield 44, 3) := by decide +kernel
theorem dModel_proposer_108 : decode cModel_proposer 108 = .ok (.iload 4, 2) := by decide +kernel
theorem dModel_proposer_110 : decode cModel_proposer 110 = .ok (.iaload, 1) := by decide +kernel
theorem dModel_proposer_111 : decode cModel_proposer 111 = .ok (.invokestatic 107, 3) := by decide +kernel
theorem dModel_proposer_114 : decode cModel_proposer 114 = .ok (.ireturn, 1) := by decide +kernel
theorem dModel_proposer_115 : decode cModel_proposer 115 = .ok (.aload_n 0, 1) := by decide +kernel
theorem dModel_proposer_116 : decode cModel_proposer 116 = .ok (.getfield 47, 3) := by decide +kernel
theorem dModel_proposer_119 : decode cModel_proposer 119 = .ok (.iload 4, 2) := by decide +kernel
theorem dModel_proposer_121 : decode cModel_proposer 121 = .ok (.iaload, 1) := by decide +kernel
theorem dModel_proposer_122 : decode cModel_proposer 122 = .ok (.ireturn, 1) := by decide +kernel
theorem dModel_proposer_123 : decode cModel_proposer 123 = .ok (.aload_n 0, 1) := by decide +kernel
theorem dModel_proposer_124 : decode cModel_proposer 124 = .ok (.getfield 38, 3) := by decide +kernel
theorem dModel_proposer_127 : decode cModel_proposer 127 = .ok (.iload 4, 2) := by decide +kernel
theorem dModel_proposer_129 : decode cModel_proposer 129 = .ok (.iaload, 1) := by decide +kernel
theorem dModel_proposer_130 : decode cModel_proposer 130 = .ok (.iconst 2, 1) := by decide +kernel
theorem dModel_proposer_131 : decode cModel_proposer 131 = .ok (.if_icmp .ne 8, 3) := by decide +kernel
theorem dModel_proposer_134 : decode cModel_proposer 134 = .ok (.iload 5, 2) := by decide +kernel
theorem dModel_proposer_136 : decode cModel_proposer 136 = .ok (.goto 4, 3) := by decide +kernel
theorem dModel_proposer_139 : decode cModel_proposer 139 = .ok (.iconst 0, 1) := by decide +kernel
theorem dModel_proposer_140 : decode cModel_proposer 140 = .ok (.ireturn, 1) := by decide +kernel
theorem dModel_proposer_141 : decode cModel_proposer 141 = .ok (.iconst (-1), 1) := by decide +kernel
theorem dModel_proposer_142 : decode cModel_proposer 142 = .ok (.ireturn, 1) := by decide +kernel
set_option maxRecDepth 100000 in
set_option maxHeartbeats 4000000 in
theorem m_proposer (l : Launch) (D : va_G) (cI cZ : ClassId) (qm : Nat → Nat) (n : Nat) (S : Nat) (P : Nat) (x : St) (nd : Int32) (sl : Int32) (wt : Int32) (hn1 : 1 ≤ n) (hn5 : n ≤ 5) (hS1 : 1 ≤ S) (hS4 : S ≤ 4) (hP5 : 5 ≤ P) (hP64 : P ≤ 64) (hIn : Inv n S x) : MI l D [(cI, .int), (cZ, .boolean)] yModel_proposer wsModel_proposer ({ frames := 1, cells := 0, slots := 0, locals := 22 }) [.ref (qm 0), .int nd, .int sl, .int wt] (wM qm cI cZ n S P x) (fun r w => r = aProp n S x nd sl wt ∧ w = (wM qm cI cZ n S P x)) := by
  intro sz
  refine Met.ofW (cc := cModel_proposer) (maxL := 6) (ret := (Option.some .int)) (by decide) rfl ?_
  intro p e s m args below meth c s₁ B hml hv
  obtain ⟨rfl, hsz, hP, hK, hD0, hZ⟩ := hv
  have hx := B.exec
  have hb := B.bytes
  have hr := B.returns
  have hts := atoms_spec (ws := wsModel_proposer) B.pre
  have hown : s.vm.findClass RModel = some m.cls := findClass_of_methodNamed B.named
  have hlocks := B.notSynchronized
  subst hsz
  have hD := hD0.self (sz := s.heap.size)
  generalize hAe : va_A (wM qm cI cZ n S P x) s.heap.size = A at hD ⊢
  have hA : ∀ q : Nat, s.heap.size ≤ q → A q := fun q h => by rw [← hAe]; exact Or.inr h
  have hS : va_S A s.heap s.heap [] := va_S.rf
  have hP : va_P D vwCl (wM qm cI cZ n S P x) s.heap := hP
  have hl := lv_entry ([.ref (qm 0), .int nd, .int sl, .int wt]) (n := 6) (Nat.le_of_ble_eq_true rfl)
  rw [lg_entry_eq]
  generalize (lg_sl ([.ref (qm 0), .int nd, .int sl, .int wt]) ++ List.replicate (6 - (lg_sl ([.ref (qm 0), .int nd, .int sl, .int wt])).length) Slot.unset).toArray = ls at hl ⊢
  have hl : lv_has ls 6 [(0, .ref (qm 0)), (1, .int nd), (2, .int sl), (3, .int wt)] := hl
  refine lv_aload_n hx hb dModel_proposer_0 rfl (lv_at hl 0 rfl) ?_
  refine lv_iload_n hx hb dModel_proposer_1 rfl (lv_at hl 1 rfl) ?_
  have hPc := hP.sub (ws' := (wM qm cI cZ n S P x)) [0, 1, 2, 3, 4, 5, 6, 7, 8, 9, 10, 11, 12, 13, 14, 15, 16, 17, 18, 19, 20] rfl
  have hDc := hD.sub (ws' := (wM qm cI cZ n S P x)) [0, 1, 2, 3, 4, 5, 6, 7, 8, 9, 10, 11, 12, 13, 14, 15, 16, 17, 18, 19, 20] (by decide) rfl
  refine kx_i (va_runV (As := [.int nd]) (rest := []) ⟨hx, hb, hml, hown, hts⟩ ((m_isNode l D cI cZ qm n S P x nd (hn1) (hn5) (hS1) (hS4) (hP5) (hP64)) s.heap.size) (cwV 1 hts (gV wd486 wd488 sl_Model_isNode wd7 wd489) rfl rfl rfl (by decide +kernel) ⟨Nat.le_of_ble_eq_true rfl, Nat.le_of_ble_eq_true rfl⟩) ⟨fb_PW, va_recv (q0 := 0) (ci := 5) hK hPc rfl rfl, pre_PW hK hPc hDc hZ⟩ rfl rfl hl.1 rfl (lv_room (Nat.le_of_ble_eq_true rfl)) dModel_proposer_2 ⟨Nat.zero_le _, Nat.zero_le _⟩) hP hD hS hA [0, 1, 2, 3, 4, 5, 6, 7, 8, 9, 10, 11, 12, 13, 14, 15, 16, 17, 18, 19, 20] [] rfl rfl (by decide) (by decide) (fun r w1 H locs hw hP hD hS => ?_)
  rcases hw with ⟨rfl, h2, rfl⟩ | ⟨rfl, h2, rfl⟩
  · have hP : va_P D vwCl (wM qm cI cZ n S P x) H := hP
    have hD : va_D A (wM qm cI cZ n S P x) := hD
    obtain ⟨a, ha, rfl⟩ := okN_of (show n < 2 ^ 31 by omega) h2
    refine lv_if_eq (tgt := 16) hx hb dModel_proposer_5 (by decide) (fun h9 => absurd h9 (by decide)) (fun _ => ?_)
    refine lv_aload_n hx hb dModel_proposer_8 rfl (lv_at hl 0 rfl) ?_
    refine lv_iload_n hx hb dModel_proposer_9 rfl (lv_at hl 2 rfl) ?_
    have hPc := hP.sub (ws' := (wM qm cI cZ n S P x)) [0, 1, 2, 3, 4, 5, 6, 7, 8, 9, 10, 11, 12, 13, 14, 15, 16, 17, 18, 19, 20] rfl
    have hDc := hD.sub (ws' := (wM qm cI cZ n S P x)) [0, 1, 2, 3, 4, 5, 6, 7, 8, 9, 10, 11, 12, 13, 14, 15, 16, 17, 18, 19, 20] (by decide) rfl
    refine kx_i (va_runV (As := [.int sl]) (rest := []) ⟨hx, hb, hml, hown, hts⟩ ((m_isSlot l D cI cZ qm n S P x sl (hn1) (hn5) (hS1) (hS4) (hP5) (hP64)) H.size) (cwV 1 hts (gV wd490 wd492 sl_Model_isSlot wd7 wd493) rfl rfl rfl (by decide +kernel) ⟨Nat.le_of_ble_eq_true rfl, Nat.le_of_ble_eq_true rfl⟩) ⟨fb_PW, va_recv (q0 := 0) (ci := 5) hK hPc rfl rfl, pre_PW hK hPc hDc hZ⟩ rfl rfl hl.1 rfl (lv_room (Nat.le_of_ble_eq_true rfl)) dModel_proposer_10 ⟨Nat.zero_le _, Nat.zero_le _⟩) hP hD hS hA [0, 1, 2, 3, 4, 5, 6, 7, 8, 9, 10, 11, 12, 13, 14, 15, 16, 17, 18, 19, 20] [] rfl rfl (by decide) (by decide) (fun r w1 H locs hw hP hD hS => ?_)
    rcases hw with ⟨rfl, h10, rfl⟩ | ⟨rfl, h10, rfl⟩
    · have hP : va_P D vwCl (wM qm cI cZ n S P x) H := hP
      have hD : va_D A (wM qm cI cZ n S P x) := hD
      obtain ⟨t, ht, rfl⟩ := okN_of (show S < 2 ^ 31 by omega) h10
      obtain ⟨e1, he1, he2⟩ := hIn.2.2.2.2.1 a t
      refine lv_if_ne (tgt := 18) hx hb dModel_proposer_13 (by decide) (fun _ => ?_) (fun h9 => absurd h9 (by decide))
      refine lv_iconst (v := nI 4) hx hb dModel_proposer_18 (by decide) ?_
      refine lv_iload_n hx hb dModel_proposer_19 rfl (lv_at hl 1 rfl) ?_
      refine lv_imul hx hb dModel_proposer_20 ?_
      refine lv_topi (nm_r ((pk_mul _ _).trans (congrArg nI (Nat.mul_comm _ _))) ?_)
      refine lv_iload_n hx hb dModel_proposer_21 rfl (lv_at hl 2 rfl) ?_
      refine lv_iadd hx hb dModel_proposer_22 ?_
      refine lv_topi (nm_r (nI_add _ _) ?_)
      refine lv_istore hx hb dModel_proposer_23 hl (by decide) rfl (fun ls hl => ?_)
      have hl : lv_has ls 6 [(4, .int (nI (a * 4 + t))), (0, .ref (qm 0)), (1, .int (nI a)), (2, .int (nI t)), (3, .int wt)] := hl
      refine lv_aload_n hx hb dModel_proposer_25 rfl (lv_at hl 1 rfl) ?_
      refine va_get (D := D) (ci := 5) (v := .ref (qm 13)) (C := RModel) (T := TModel) (N := 25) hx hb hts (fun w h => mc (uModel_in w h)) hown hK hP 0 rfl rfl 15 (by decide) (hts _ (mc wd420)) (fun _ h9 => h9) rfl dModel_proposer_26 ?_
      refine lv_iload hx hb dModel_proposer_29 (lv_at hl 0 rfl) ?_
      refine ka_ld (v := x.1 4 a t) hx hb hK hP 13 0 rfl rfl (by omega) (by omega) (sq_at (by omega)) dModel_proposer_31 ?_
      refine lv_if_ge (tgt := 45) hx hb dModel_proposer_32 (by decide) (fun c32 => ?_) (fun c32 => ?_)
      · refine lv_aload_n hx hb dModel_proposer_45 rfl (lv_at hl 1 rfl) ?_
        refine va_get (D := D) (ci := 5) (v := .ref (qm 14)) (C := RModel) (T := TModel) (N := 25) hx hb hts (fun w h => mc (uModel_in w h)) hown hK hP 0 rfl rfl 16 (by decide) (hts _ (mc wd421)) (fun _ h9 => h9) rfl dModel_proposer_46 ?_
        refine lv_iload hx hb dModel_proposer_49 (lv_at hl 0 rfl) ?_
        refine ka_ld (v := x.1 7 a t) hx hb hK hP 14 0 rfl rfl (by omega) (by omega) (sq_at (by omega)) dModel_proposer_51 ?_
        refine lv_istore hx hb dModel_proposer_52 hl (by decide) rfl (fun ls hl => ?_)
        have hl : lv_has ls 6 [(5, .int (x.1 7 a t)), (4, .int (nI (a * 4 + t))), (0, .ref (qm 0)), (1, .int (nI a)), (2, .int (nI t)), (3, .int wt)] := hl
        refine lv_iload_n hx hb dModel_proposer_54 rfl (lv_at hl 5 rfl) ?_
        by_cases k55_0 : wt = nI 0
        · refine lv_topi (nm_r (k55_0) ?_)
          refine lv_tableIn (tgt := 88) hx hb dModel_proposer_55 (by decide) (by decide) rfl (by decide) ?_
          refine lv_aload_n hx hb dModel_proposer_88 rfl (lv_at hl 2 rfl) ?_
          refine va_get (D := D) (ci := 5) (v := .ref (qm 10)) (C := RModel) (T := TModel) (N := 25) hx hb hts (fun w h => mc (uModel_in w h)) hown hK hP 0 rfl rfl 12 (by decide) (hts _ (mc wd417)) (fun _ h9 => h9) rfl dModel_proposer_89 ?_
          refine lv_iload hx hb dModel_proposer_92 (lv_at hl 1 rfl) ?_
          refine ka_ld (v := x.1 1 a t) hx hb hK hP 10 0 rfl rfl (by omega) (by omega) (sq_at (by omega)) dModel_proposer_94 ?_
          exact W.iret (v := x.1 1 a t) hx hb hr (fun t9 ht9 hW9 => ⟨⟨x.1 1 a t, (wM qm cI cZ n S P x), rfl, ⟨by unfold aProp; rw [if_pos ⟨h2, h10⟩, ix_nI ha (by omega), ix_nI ht (by omega), if_pos k55_0], rfl⟩, by rw [ht9]; exact hP, va_K.moved hW9.alike hK, hD⟩, hS.F ht9⟩) hS.2.2 dModel_proposer_95
        by_cases k55_1 : wt = nI 1
        · refine lv_topi (nm_r (k55_1) ?_)
          refine lv_tableIn (tgt := 96) hx hb dModel_proposer_55 (by decide) (by decide) rfl (by decide) ?_
          refine lv_aload_n hx hb dModel_proposer_96 rfl (lv_at hl 2 rfl) ?_
          refine va_get (D := D) (ci := 5) (v := .ref (qm 9)) (C := RModel) (T := TModel) (N := 25) hx hb hts (fun w h => mc (uModel_in w h)) hown hK hP 0 rfl rfl 11 (by decide) (hts _ (mc wd416)) (fun _ h9 => h9) rfl dModel_proposer_97 ?_
          refine lv_iload hx hb dModel_proposer_100 (lv_at hl 1 rfl) ?_
          refine ka_ld (v := x.1 2 a t) hx hb hK hP 9 0 rfl rfl (by omega) (by omega) (sq_at (by omega)) dModel_proposer_102 ?_
          exact W.iret (v := x.1 2 a t) hx hb hr (fun t9 ht9 hW9 => ⟨⟨x.1 2 a t, (wM qm cI cZ n S P x), rfl, ⟨by unfold aProp; rw [if_pos ⟨h2, h10⟩, ix_nI ha (by omega), ix_nI ht (by omega), if_neg k55_0, if_pos k55_1], rfl⟩, by rw [ht9]; exact hP, va_K.moved hW9.alike hK, hD⟩, hS.F ht9⟩) hS.2.2 dModel_proposer_103
        by_cases k55_2 : wt = nI 2
        · refine lv_topi (nm_r (k55_2) ?_)
          refine lv_tableIn (tgt := 104) hx hb dModel_proposer_55 (by decide) (by decide) rfl (by decide) ?_
          refine lv_aload_n hx hb dModel_proposer_104 rfl (lv_at hl 2 rfl) ?_
          refine va_get (D := D) (ci := 5) (v := .ref (qm 12)) (C := RModel) (T := TModel) (N := 25) hx hb hts (fun w h => mc (uModel_in w h)) hown hK hP 0 rfl rfl 14 (by decide) (hts _ (mc wd419)) (fun _ h9 => h9) rfl dModel_proposer_105 ?_
          refine lv_iload hx hb dModel_proposer_108 (lv_at hl 1 rfl) ?_
          refine ka_ld (v := nI e1) hx hb hK hP 12 0 rfl rfl (by omega) (by omega) (by rw [sq_at (by omega)]; exact he2) dModel_proposer_110 ?_
          have hPc := hP.sub (ws' := ([] : va_W)) [] rfl
          have hDc := hD.sub (ws' := ([] : va_W)) [] (by decide) rfl
          refine kx_i (va_runS (As := [.int (nI e1)]) (rest := []) ⟨hx, hb, hml, hown, hts⟩ ((m_bits l D cI cZ e1 (he1)) H.size) (va_cwS 1 hts (gS wd526 wd527 wd7 wd528) rfl rfl rfl (by decide +kernel) ⟨Nat.le_of_ble_eq_true rfl, Nat.le_of_ble_eq_true rfl⟩) ⟨fb_PW, pre_PW hK hPc hDc hZ⟩ rfl rfl hl.1 rfl (lv_room (Nat.le_of_ble_eq_true rfl)) dModel_proposer_111 ⟨Nat.zero_le _, Nat.zero_le _⟩) hP hD hS hA [] [0, 1, 2, 3, 4, 5, 6, 7, 8, 9, 10, 11, 12, 13, 14, 15, 16, 17, 18, 19, 20] rfl rfl (by decide) (by decide) (fun r w1 H locs hw hP hD hS => ?_)
          obtain ⟨rfl, rfl⟩ := hw
          have hP : va_P D vwCl (wM qm cI cZ n S P x) H := hP
          have hD : va_D A (wM qm cI cZ n S P x) := hD
          exact W.iret (v := nI (popn e1)) hx hb hr (fun t9 ht9 hW9 => ⟨⟨nI (popn e1), (wM qm cI cZ n S P x), rfl, ⟨by unfold aProp; rw [if_pos ⟨h2, h10⟩, ix_nI ha (by omega), ix_nI ht (by omega), if_neg k55_0, if_neg k55_1, if_pos k55_2, he2, ix_nI he1 (by omega)], rfl⟩, by rw [ht9]; exact hP, va_K.moved hW9.alike hK, hD⟩, hS.F ht9⟩) hS.2.2 dModel_proposer_114
        by_cases k55_3 : wt = nI 3
        · refine lv_topi (nm_r (k55_3) ?_)
          refine lv_tableIn (tgt := 115) hx hb dModel_proposer_55 (by decide) (by decide) rfl (by decide) ?_
          refine lv_aload_n hx hb dModel_proposer_115 rfl (lv_at hl 2 rfl) ?_
          refine va_get (D := D) (ci := 5) (v := .ref (qm 13)) (C := RModel) (T := TModel) (N := 25) hx hb hts (fun w h => mc (uModel_in w h)) hown hK hP 0 rfl rfl 15 (by decide) (hts _ (mc wd420)) (fun _ h9 => h9) rfl dModel_proposer_116 ?_
          refine lv_iload hx hb dModel_proposer_119 (lv_at hl 1 rfl) ?_
          refine ka_ld (v := x.1 4 a t) hx hb hK hP 13 0 rfl rfl (by omega) (by omega) (sq_at (by omega)) dModel_proposer_121 ?_
          exact W.iret (v := x.1 4 a t) hx hb hr (fun t9 ht9 hW9 => ⟨⟨x.1 4 a t, (wM qm cI cZ n S P x), rfl, ⟨by unfold aProp; rw [if_pos ⟨h2, h10⟩, ix_nI ha (by omega), ix_nI ht (by omega), if_neg k55_0, if_neg k55_1, if_neg k55_2, if_pos k55_3], rfl⟩, by rw [ht9]; exact hP, va_K.moved hW9.alike hK, hD⟩, hS.F ht9⟩) hS.2.2 dModel_proposer_122
        by_cases k55_4 : wt = nI 4
        · refine lv_topi (nm_r (k55_4) ?_)
          refine lv_tableIn (tgt := 123) hx hb dModel_proposer_55 (by decide) (by decide) rfl (by decide) ?_
          refine lv_aload_n hx hb dModel_proposer_123 rfl (lv_at hl 2 rfl) ?_
          refine va_get (D := D) (ci := 5) (v := .ref (qm 10)) (C := RModel) (T := TModel) (N := 25) hx hb hts (fun w h => mc (uModel_in w h)) hown hK hP 0 rfl rfl 12 (by decide) (hts _ (mc wd417)) (fun _ h9 => h9) rfl dModel_proposer_124 ?_
          refine lv_iload hx hb dModel_proposer_127 (lv_at hl 1 rfl) ?_
          refine ka_ld (v := x.1 1 a t) hx hb hK hP 10 0 rfl rfl (by omega) (by omega) (sq_at (by omega)) dModel_proposer_129 ?_
          refine lv_iconst (v := nI 2) hx hb dModel_proposer_130 (by decide) ?_
          refine lv_icmp_ne (tgt := 139) hx hb dModel_proposer_131 (by decide) (fun c131 => ?_) (fun c131 => ?_)
          · refine lv_iconst (v := nI 0) hx hb dModel_proposer_139 (by decide) ?_
            exact W.iret (v := nI 0) hx hb hr (fun t9 ht9 hW9 => ⟨⟨nI 0, (wM qm cI cZ n S P x), rfl, ⟨by unfold aProp; rw [if_pos ⟨h2, h10⟩, ix_nI ha (by omega), ix_nI ht (by omega), if_neg k55_0, if_neg k55_1, if_neg k55_2, if_neg k55_3, if_pos k55_4, if_neg c131], rfl⟩, by rw [ht9]; exact hP, va_K.moved hW9.alike hK, hD⟩, hS.F ht9⟩) hS.2.2 dModel_proposer_140
          · refine lv_iload hx hb dModel_proposer_134 (lv_at hl 0 rfl) ?_
            refine lv_goto (tgt := 140) hx hb dModel_proposer_136 (by decide) ?_
            have hbest := hIn.2.2.2.1.2.1 a t (by rw [c131]; decide)
            exact W.iret (v := x.1 7 a t) hx hb hr (fun t9 ht9 hW9 => ⟨⟨x.1 7 a t, (wM qm cI cZ n S P x), rfl, ⟨by unfold aProp; rw [if_pos ⟨h2, h10⟩, ix_nI ha (by omega), ix_nI ht (by omega), if_neg k55_0, if_neg k55_1, if_neg k55_2, if_neg k55_3, if_pos k55_4, if_pos c131, hbest, if_neg (Int32.not_lt.mpr c32)], rfl⟩, by rw [ht9]; exact hP, va_K.moved hW9.alike hK, hD⟩, hS.F ht9⟩) hS.2.2 dModel_proposer_140
        refine lv_tableOut (tgt := 141) hx hb dModel_proposer_55 (tb_out 0 4 (by intro j h1 h2; rcases (show j = 0 ∨ j = 1 ∨ j = 2 ∨ j = 3 ∨ j = 4 by omega) with rfl | rfl | rfl | rfl | rfl <;> assumption)) (by decide) ?_
        refine lv_iconst (v := (-1)) hx hb dModel_proposer_141 (by decide) ?_
        exact W.iret (v := (-1)) hx hb hr (fun t9 ht9 hW9 => ⟨⟨(-1), (wM qm cI cZ n S P x), rfl, ⟨by unfold aProp; rw [if_pos ⟨h2, h10⟩, ix_nI ha (by omega), ix_nI ht (by omega), if_neg k55_0, if_neg k55_1, if_neg k55_2, if_neg k55_3, if_neg k55_4], rfl⟩, by rw [ht9]; exact hP, va_K.moved hW9.alike hK, hD⟩, hS.F ht9⟩) hS.2.2 dModel_proposer_142
      · refine lv_aload_n hx hb dModel_proposer_35 rfl (lv_at hl 1 rfl) ?_
        refine va_get (D := D) (ci := 5) (v := .ref (qm 11)) (C := RModel) (T := TModel) (N := 25) hx hb hts (fun w h => mc (uModel_in w h)) hown hK hP 0 rfl rfl 13 (by decide) (hts _ (mc wd418)) (fun _ h9 => h9) rfl dModel_proposer_36 ?_
        refine lv_iload hx hb dModel_proposer_39 (lv_at hl 0 rfl) ?_
        refine ka_ld (v := x.1 6 a t) hx hb hK hP 11 0 rfl rfl (by omega) (by omega) (sq_at (by omega)) dModel_proposer_41 ?_
        refine lv_goto (tgt := 52) hx hb dModel_proposer_42 (by decide) ?_
        refine lv_istore hx hb dModel_proposer_52 hl (by decide) rfl (fun ls hl => ?_)
        have hl : lv_has ls 6 [(5, .int (x.1 6 a t)), (4, .int (nI (a * 4 + t))), (0, .ref (qm 0)), (1, .int (nI a)), (2, .int (nI t)), (3, .int wt)] := hl
        refine lv_iload_n hx hb dModel_proposer_54 rfl (lv_at hl 5 rfl) ?_
        by_cases k55_0 : wt = nI 0
        · refine lv_topi (nm_r (k55_0) ?_)
          refine lv_tableIn (tgt := 88) hx hb dModel_proposer_55 (by decide) (by decide) rfl (by decide) ?_
          refine lv_aload_n hx hb dModel_proposer_88 rfl (lv_at hl 2 rfl) ?_
          refine va_get (D := D) (ci := 5) (v := .ref (qm 10)) (C := RModel) (T := TModel) (N := 25) hx hb hts (fun w h => mc (uModel_in w h)) hown hK hP 0 rfl rfl 12 (by decide) (hts _ (mc wd417)) (fun _ h9 => h9) rfl dModel_proposer_89 ?_
          refine lv_iload hx hb dModel_proposer_92 (lv_at hl 1 rfl) ?_
          refine ka_ld (v := x.1 1 a t) hx hb hK hP 10 0 rfl rfl (by omega) (by omega) (sq_at (by omega)) dModel_proposer_94 ?_
          exact W.iret (v := x.1 1 a t) hx hb hr (fun t9 ht9 hW9 => ⟨⟨x.1 1 a t, (wM qm cI cZ n S P x), rfl, ⟨by unfold aProp; rw [if_pos ⟨h2, h10⟩, ix_nI ha (by omega), ix_nI ht (by omega), if_pos k55_0], rfl⟩, by rw [ht9]; exact hP, va_K.moved hW9.alike hK, hD⟩, hS.F ht9⟩) hS.2.2 dModel_proposer_95
        by_cases k55_1 : wt = nI 1
        · refine lv_topi (nm_r (k55_1) ?_)
          refine lv_tableIn (tgt := 96) hx hb dModel_proposer_55 (by decide) (by decide) rfl (by decide) ?_
          refine lv_aload_n hx hb dModel_proposer_96 rfl (lv_at hl 2 rfl) ?_
          refine va_get (D := D) (ci := 5) (v := .ref (qm 9)) (C := RModel) (T := TModel) (N := 25) hx hb hts (fun w h => mc (uModel_in w h)) hown hK hP 0 rfl rfl 11 (by decide) (hts _ (mc wd416)) (fun _ h9 => h9) rfl dModel_proposer_97 ?_
          refine lv_iload hx hb dModel_proposer_100 (lv_at hl 1 rfl) ?_
          refine ka_ld (v := x.1 2 a t) hx hb hK hP 9 0 rfl rfl (by omega) (by omega) (sq_at (by omega)) dModel_proposer_102 ?_
          exact W.iret (v := x.1 2 a t) hx hb hr (fun t9 ht9 hW9 => ⟨⟨x.1 2 a t, (wM qm cI cZ n S P x), rfl, ⟨by unfold aProp; rw [if_pos ⟨h2, h10⟩, ix_nI ha (by omega), ix_nI ht (by omega), if_neg k55_0, if_pos k55_1], rfl⟩, by rw [ht9]; exact hP, va_K.moved hW9.alike hK, hD⟩, hS.F ht9⟩) hS.2.2 dModel_proposer_103
        by_cases k55_2 : wt = nI 2
        · refine lv_topi (nm_r (k55_2) ?_)
          refine lv_tableIn (tgt := 104) hx hb dModel_proposer_55 (by decide) (by decide) rfl (by decide) ?_
          refine lv_aload_n hx hb dModel_proposer_104 rfl (lv_at hl 2 rfl) ?_
          refine va_get (D := D) (ci := 5) (v := .ref (qm 12)) (C := RModel) (T := TModel) (N := 25) hx hb hts (fun w h => mc (uModel_in w h)) hown hK hP 0 rfl rfl 14 (by decide) (hts _ (mc wd419)) (fun _ h9 => h9) rfl dModel_proposer_105 ?_
          refine lv_iload hx hb dModel_proposer_108 (lv_at hl 1 rfl) ?_
          refine ka_ld (v := nI e1) hx hb hK hP 12 0 rfl rfl (by omega) (by omega) (by rw [sq_at (by omega)]; exact he2) dModel_proposer_110 ?_
          have hPc := hP.sub (ws' := ([] : va_W)) [] rfl
          have hDc := hD.sub (ws' := ([] : va_W)) [] (by decide) rfl
          refine kx_i (va_runS (As := [.int (nI e1)]) (rest := []) ⟨hx, hb, hml, hown, hts⟩ ((m_bits l D cI cZ e1 (he1)) H.size) (va_cwS 1 hts (gS wd526 wd527 wd7 wd528) rfl rfl rfl (by decide +kernel) ⟨Nat.le_of_ble_eq_true rfl, Nat.le_of_ble_eq_true rfl⟩) ⟨fb_PW, pre_PW hK hPc hDc hZ⟩ rfl rfl hl.1 rfl (lv_room (Nat.le_of_ble_eq_true rfl)) dModel_proposer_111 ⟨Nat.zero_le _, Nat.zero_le _⟩) hP hD hS hA [] [0, 1, 2, 3, 4, 5, 6, 7, 8, 9, 10, 11, 12, 13, 14, 15, 16, 17, 18, 19, 20] rfl rfl (by decide) (by decide) (fun r w1 H locs hw hP hD hS => ?_)
          obtain ⟨rfl, rfl⟩ := hw
          have hP : va_P D vwCl (wM qm cI cZ n S P x) H := hP
          have hD : va_D A (wM qm cI cZ n S P x) := hD
          exact W.iret (v := nI (popn e1)) hx hb hr (fun t9 ht9 hW9 => ⟨⟨nI (popn e1), (wM qm cI cZ n S P x), rfl, ⟨by unfold aProp; rw [if_pos ⟨h2, h10⟩, ix_nI ha (by omega), ix_nI ht (by omega), if_neg k55_0, if_neg k55_1, if_pos k55_2, he2, ix_nI he1 (by omega)], rfl⟩, by rw [ht9]; exact hP, va_K.moved hW9.alike hK, hD⟩, hS.F ht9⟩) hS.2.2 dModel_proposer_114
        by_cases k55_3 : wt = nI 3
        · refine lv_topi (nm_r (k55_3) ?_)
          refine lv_tableIn (tgt := 115) hx hb dModel_proposer_55 (by decide) (by decide) rfl (by decide) ?_
          refine lv_aload_n hx hb dModel_proposer_115 rfl (lv_at hl 2 rfl) ?_
          refine va_get (D := D) (ci := 5) (v := .ref (qm 13)) (C := RModel) (T := TModel) (N := 25) hx hb hts (fun w h => mc (uModel_in w h)) hown hK hP 0 rfl rfl 15 (by decide) (hts _ (mc wd420)) (fun _ h9 => h9) rfl dModel_proposer_116 ?_
          refine lv_iload hx hb dModel_proposer_119 (lv_at hl 1 rfl) ?_
          refine ka_ld (v := x.1 4 a t) hx hb hK hP 13 0 rfl rfl (by omega) (by omega) (sq_at (by omega)) dModel_proposer_121 ?_
          exact W.iret (v := x.1 4 a t) hx hb hr (fun t9 ht9 hW9 => ⟨⟨x.1 4 a t, (wM qm cI cZ n S P x), rfl, ⟨by unfold aProp; rw [if_pos ⟨h2, h10⟩, ix_nI ha (by omega), ix_nI ht (by omega), if_neg k55_0, if_neg k55_1, if_neg k55_2, if_pos k55_3], rfl⟩, by rw [ht9]; exact hP, va_K.moved hW9.alike hK, hD⟩, hS.F ht9⟩) hS.2.2 dModel_proposer_122
        by_cases k55_4 : wt = nI 4
        · refine lv_topi (nm_r (k55_4) ?_)
          refine lv_tableIn (tgt := 123) hx hb dModel_proposer_55 (by decide) (by decide) rfl (by decide) ?_
          refine lv_aload_n hx hb dModel_proposer_123 rfl (lv_at hl 2 rfl) ?_
          refine va_get (D := D) (ci := 5) (v := .ref (qm 10)) (C := RModel) (T := TModel) (N := 25) hx hb hts (fun w h => mc (uModel_in w h)) hown hK hP 0 rfl rfl 12 (by decide) (hts _ (mc wd417)) (fun _ h9 => h9) rfl dModel_proposer_124 ?_
          refine lv_iload hx hb dModel_proposer_127 (lv_at hl 1 rfl) ?_
          refine ka_ld (v := x.1 1 a t) hx hb hK hP 10 0 rfl rfl (by omega) (by omega) (sq_at (by omega)) dModel_proposer_129 ?_
          refine lv_iconst (v := nI 2) hx hb dModel_proposer_130 (by decide) ?_
          refine lv_icmp_ne (tgt := 139) hx hb dModel_proposer_131 (by decide) (fun c131 => ?_) (fun c131 => ?_)
          · refine lv_iconst (v := nI 0) hx hb dModel_proposer_139 (by decide) ?_
            exact W.iret (v := nI 0) hx hb hr (fun t9 ht9 hW9 => ⟨⟨nI 0, (wM qm cI cZ n S P x), rfl, ⟨by unfold aProp; rw [if_pos ⟨h2, h10⟩, ix_nI ha (by omega), ix_nI ht (by omega), if_neg k55_0, if_neg k55_1, if_neg k55_2, if_neg k55_3, if_pos k55_4, if_neg c131], rfl⟩, by rw [ht9]; exact hP, va_K.moved hW9.alike hK, hD⟩, hS.F ht9⟩) hS.2.2 dModel_proposer_140
          · refine lv_iload hx hb dModel_proposer_134 (lv_at hl 0 rfl) ?_
            refine lv_goto (tgt := 140) hx hb dModel_proposer_136 (by decide) ?_
            have hbest := hIn.2.2.2.1.2.1 a t (by rw [c131]; decide)
            exact W.iret (v := x.1 6 a t) hx hb hr (fun t9 ht9 hW9 => ⟨⟨x.1 6 a t, (wM qm cI cZ n S P x), rfl, ⟨by unfold aProp; rw [if_pos ⟨h2, h10⟩, ix_nI ha (by omega), ix_nI ht (by omega), if_neg k55_0, if_neg k55_1, if_neg k55_2, if_neg k55_3, if_pos k55_4, if_pos c131, hbest, if_pos (Int32.not_le.mp c32)], rfl⟩, by rw [ht9]; exact hP, va_K.moved hW9.alike hK, hD⟩, hS.F ht9⟩) hS.2.2 dModel_proposer_140
        refine lv_tableOut (tgt := 141) hx hb dModel_proposer_55 (tb_out 0 4 (by intro j h1 h2; rcases (show j = 0 ∨ j = 1 ∨ j = 2 ∨ j = 3 ∨ j = 4 by omega) with rfl | rfl | rfl | rfl | rfl <;> assumption)) (by decide) ?_
        refine lv_iconst (v := (-1)) hx hb dModel_proposer_141 (by decide) ?_
        exact W.iret (v := (-1)) hx hb hr (fun t9 ht9 hW9 => ⟨⟨(-1), (wM qm cI cZ n S P x), rfl, ⟨by unfold aProp; rw [if_pos ⟨h2, h10⟩, ix_nI ha (by omega), ix_nI ht (by omega), if_neg k55_0, if_neg k55_1, if_neg k55_2, if_neg k55_3, if_neg k55_4], rfl⟩, by rw [ht9]; exact hP, va_K.moved hW9.alike hK, hD⟩, hS.F ht9⟩) hS.2.2 dModel_proposer_142
    · have hP : va_P D vwCl (wM qm cI cZ n S P x) H := hP
      have hD : va_D A (wM qm cI cZ n S P x) := hD
      refine lv_if_ne (tgt := 18) hx hb dModel_proposer_13 (by decide) (fun h9 => absurd (by decide) h9) (fun _ => ?_)
      refine lv_iconst (v := (-1)) hx hb dModel_proposer_16 (by decide) ?_
      exact W.iret (v := (-1)) hx hb hr (fun t9 ht9 hW9 => ⟨⟨(-1), (wM qm cI cZ n S P x), rfl, ⟨by unfold aProp; rw [if_neg (fun h => h10 h.2)], rfl⟩, by rw [ht9]; exact hP, va_K.moved hW9.alike hK, hD⟩, hS.F ht9⟩) hS.2.2 dModel_proposer_17
  · have hP : va_P D vwCl (wM qm cI cZ n S P x) H := hP
    have hD : va_D A (wM qm cI cZ n S P x) := hD
    refine lv_if_eq (tgt := 16) hx hb dModel_proposer_5 (by decide) (fun _ => ?_) (fun h9 => absurd (by decide) h9)
    refine lv_iconst (v := (-1)) hx hb dModel_proposer_16 (by decide) ?_
    exact W.iret (v := (-1)) hx hb hr (fun t9 ht9 hW9 => ⟨⟨(-1), (wM qm cI cZ n S P x), rfl, ⟨by unfold aProp; rw [if_neg (fun h => h2 h.1)], rfl⟩, by rw [ht9]; exact hP, va_K.moved hW9.alike hK, hD⟩, hS.F ht9⟩) hS.2.2 dModel_proposer_17
theorem dModel_heard_0 : decode cModel_heard 0 = .ok (.aload_n 0, 1) := by decide +kernel
theorem dModel_heard_1 : decode cModel_heard 1 = .ok (.iload_n 1, 1) := by decide +kernel
theorem dModel_heard_2 : decode cModel_heard 2 = .ok (.invokevirtual 85, 3) := by decide +kernel
theorem dModel_heard_5 : decode cModel_heard 5 = .ok (.ifCond .eq 37, 3) := by decide +kernel
theorem dModel_heard_8 : decode cModel_heard 8 = .ok (.aload_n 0, 1) := by decide +kernel
theorem dModel_heard_9 : decode cModel_heard 9 = .ok (.iload_n 2, 1) := by decide +kernel
theorem dModel_heard_10 : decode cModel_heard 10 = .ok (.invokevirtual 89, 3) := by decide +kernel
theorem dModel_heard_13 : decode cModel_heard 13 = .ok (.ifCond .eq 29, 3) := by decide +kernel
theorem dModel_heard_16 : decode cModel_heard 16 = .ok (.aload_n 0, 1) := by decide +kernel
theorem dModel_heard_17 : decode cModel_heard 17 = .ok (.iload_n 3, 1) := by decide +kernel
theorem dModel_heard_18 : decode cModel_heard 18 = .ok (.invokevirtual 85, 3) := by decide +kernel
theorem dModel_heard_21 : decode cModel_heard 21 = .ok (.ifCond .eq 21, 3) := by decide +kernel
theorem dModel_heard_24 : decode cModel_heard 24 = .ok (.aload_n 0, 1) := by decide +kernel
theorem dModel_heard_25 : decode cModel_heard 25 = .ok (.getfield 62, 3) := by decide +kernel
theorem dModel_heard_28 : decode cModel_heard 28 = .ok (.bipush 20, 2) := by decide +kernel
theorem dModel_heard_30 : decode cModel_heard 30 = .ok (.iload_n 1, 1) := by decide +kernel
theorem dModel_heard_31 : decode cModel_heard 31 = .ok (.imul, 1) := by decide +kernel
theorem dModel_heard_32 : decode cModel_heard 32 = .ok (.iconst 5, 1) := by decide +kernel
theorem dModel_heard_33 : decode cModel_heard 33 = .ok (.iload_n 2, 1) := by decide +kernel
theorem dModel_heard_34 : decode cModel_heard 34 = .ok (.imul, 1) := by decide +kernel
theorem dModel_heard_35 : decode cModel_heard 35 = .ok (.iadd, 1) := by decide +kernel
theorem dModel_heard_36 : decode cModel_heard 36 = .ok (.iload_n 3, 1) := by decide +kernel
theorem dModel_heard_37 : decode cModel_heard 37 = .ok (.iadd, 1) := by decide +kernel
theorem dModel_heard_38 : decode cModel_heard 38 = .ok (.iaload, 1) := by decide +kernel
theorem dModel_heard_39 : decode cModel_heard 39 = .ok (.goto 4, 3) := by decide +kernel
theorem dModel_heard_42 : decode cModel_heard 42 = .ok (.iconst (-1), 1) := by decide +kernel
theorem dModel_heard_43 : decode cModel_heard 43 = .ok (.ireturn, 1) := by decide +kernel
set_option maxRecDepth 100000 in
set_option maxHeartbeats 4000000 in
theorem m_heard (l : Launch) (D : va_G) (cI cZ : ClassId) (qm : Nat → Nat) (n : Nat) (S : Nat) (P : Nat) (x : St) (nd : Int32) (sl : Int32) (wt : Int32) (hn1 : 1 ≤ n) (hn5 : n ≤ 5) (hS1 : 1 ≤ S) (hS4 : S ≤ 4) (hP5 : 5 ≤ P) (hP64 : P ≤ 64) : MI l D [(cI, .int), (cZ, .boolean)] yModel_heard wsModel_heard ({ frames := 1, cells := 0, slots := 0, locals := 21 }) [.ref (qm 0), .int nd, .int sl, .int wt] (wM qm cI cZ n S P x) (fun r w => r = aHeard n S x nd sl wt ∧ w = (wM qm cI cZ n S P x)) := by
  intro sz
  refine Met.ofW (cc := cModel_heard) (maxL := 4) (ret := (Option.some .int)) (by decide) rfl ?_
  intro p e s m args below meth c s₁ B hml hv
  obtain ⟨rfl, hsz, hP, hK, hD0, hZ⟩ := hv
  have hx := B.exec
  have hb := B.bytes
  have hr := B.returns
  have hts := atoms_spec (ws := wsModel_heard) B.pre
  have hown : s.vm.findClass RModel = some m.cls := findClass_of_methodNamed B.named
  have hlocks := B.notSynchronized
  subst hsz
  have hD := hD0.self (sz := s.heap.size)
  generalize hAe : va_A (wM qm cI cZ n S P x) s.heap.size = A at hD ⊢
  have hA : ∀ q : Nat, s.heap.size ≤ q → A q := fun q h => by rw [← hAe]; exact Or.inr h
  have hS : va_S A s.heap s.heap [] := va_S.rf
  have hP : va_P D vwCl (wM qm cI cZ n S P x) s.heap := hP
  have hl := lv_entry ([.ref (qm 0), .int nd, .int sl, .int wt]) (n := 4) (Nat.le_of_ble_eq_true rfl)
  rw [lg_entry_eq]
  generalize (lg_sl ([.ref (qm 0), .int nd, .int sl, .int wt]) ++ List.replicate (4 - (lg_sl ([.ref (qm 0), .int nd, .int sl, .int wt])).length) Slot.unset).toArray = ls at hl ⊢
  have hl : lv_has ls 4 [(0, .ref (qm 0)), (1, .int nd), (2, .int sl), (3, .int wt)] := hl
  refine lv_aload_n hx hb dModel_heard_0 rfl (lv_at hl 0 rfl) ?_
  refine lv_iload_n hx hb dModel_heard_1 rfl (lv_at hl 1 rfl) ?_
  have hPc := hP.sub (ws' := (wM qm cI cZ n S P x)) [0, 1, 2, 3, 4, 5, 6, 7, 8, 9, 10, 11, 12, 13, 14, 15, 16, 17, 18, 19, 20] rfl
  have hDc := hD.sub (ws' := (wM qm cI cZ n S P x)) [0, 1, 2, 3, 4, 5, 6, 7, 8, 9, 10, 11, 12, 13, 14, 15, 16, 17, 18, 19, 20] (by decide) rfl
  refine kx_i (va_runV (As := [.int nd]) (rest := []) ⟨hx, hb, hml, hown, hts⟩ ((m_isNode l D cI cZ qm n S P x nd (hn1) (hn5) (hS1) (hS4) (hP5) (hP64)) s.heap.size) (cwV 1 hts (gV wd486 wd488 sl_Model_isNode wd7 wd489) rfl rfl rfl (by decide +kernel) ⟨Nat.le_of_ble_eq_true rfl, Nat.le_of_ble_eq_true rfl⟩) ⟨fb_PW, va_recv (q0 := 0) (ci := 5) hK hPc rfl rfl, pre_PW hK hPc hDc hZ⟩ rfl rfl hl.1 rfl (lv_room (Nat.le_of_ble_eq_true rfl)) dModel_heard_2 ⟨Nat.zero_le _, Nat.zero_le _⟩) hP hD hS hA [0, 1, 2, 3, 4, 5, 6, 7, 8, 9, 10, 11, 12, 13, 14, 15, 16, 17, 18, 19, 20] [] rfl rfl (by decide) (by decide) (fun r w1 H locs hw hP hD hS => ?_)
  rcases hw with ⟨rfl, h2, rfl⟩ | ⟨rfl, h2, rfl⟩
  · have hP : va_P D vwCl (wM qm cI cZ n S P x) H := hP
    have hD : va_D A (wM qm cI cZ n S P x) := hD
    obtain ⟨a, ha, rfl⟩ := okN_of (show n < 2 ^ 31 by omega) h2
    refine lv_if_eq (tgt := 42) hx hb dModel_heard_5 (by decide) (fun h9 => absurd h9 (by decide)) (fun _ => ?_)
    refine lv_aload_n hx hb dModel_heard_8 rfl (lv_at hl 0 rfl) ?_
    refine lv_iload_n hx hb dModel_heard_9 rfl (lv_at hl 2 rfl) ?_
    have hPc := hP.sub (ws' := (wM qm cI cZ n S P x)) [0, 1, 2, 3, 4, 5, 6, 7, 8, 9, 10, 11, 12, 13, 14, 15, 16, 17, 18, 19, 20] rfl
    have hDc := hD.sub (ws' := (wM qm cI cZ n S P x)) [0, 1, 2, 3, 4, 5, 6, 7, 8, 9, 10, 11, 12, 13, 14, 15, 16, 17, 18, 19, 20] (by decide) rfl
    refine kx_i (va_runV (As := [.int sl]) (rest := []) ⟨hx, hb, hml, hown, hts⟩ ((m_isSlot l D cI cZ qm n S P x sl (hn1) (hn5) (hS1) (hS4) (hP5) (hP64)) H.size) (cwV 1 hts (gV wd490 wd492 sl_Model_isSlot wd7 wd493) rfl rfl rfl (by decide +kernel) ⟨Nat.le_of_ble_eq_true rfl, Nat.le_of_ble_eq_true rfl⟩) ⟨fb_PW, va_recv (q0 := 0) (ci := 5) hK hPc rfl rfl, pre_PW hK hPc hDc hZ⟩ rfl rfl hl.1 rfl (lv_room (Nat.le_of_ble_eq_true rfl)) dModel_heard_10 ⟨Nat.zero_le _, Nat.zero_le _⟩) hP hD hS hA [0, 1, 2, 3, 4, 5, 6, 7, 8, 9, 10, 11, 12, 13, 14, 15, 16, 17, 18, 19, 20] [] rfl rfl (by decide) (by decide) (fun r w1 H locs hw hP hD hS => ?_)
    rcases hw with ⟨rfl, h10, rfl⟩ | ⟨rfl, h10, rfl⟩
    · have hP : va_P D vwCl (wM qm cI cZ n S P x) H := hP
      have hD : va_D A (wM qm cI cZ n S P x) := hD
      obtain ⟨t, ht, rfl⟩ := okN_of (show S < 2 ^ 31 by omega) h10
      refine lv_if_eq (tgt := 42) hx hb dModel_heard_13 (by decide) (fun h9 => absurd h9 (by decide)) (fun _ => ?_)
      refine lv_aload_n hx hb dModel_heard_16 rfl (lv_at hl 0 rfl) ?_
      refine lv_iload_n hx hb dModel_heard_17 rfl (lv_at hl 3 rfl) ?_
      have hPc := hP.sub (ws' := (wM qm cI cZ n S P x)) [0, 1, 2, 3, 4, 5, 6, 7, 8, 9, 10, 11, 12, 13, 14, 15, 16, 17, 18, 19, 20] rfl
      have hDc := hD.sub (ws' := (wM qm cI cZ n S P x)) [0, 1, 2, 3, 4, 5, 6, 7, 8, 9, 10, 11, 12, 13, 14, 15, 16, 17, 18, 19, 20] (by decide) rfl
      refine kx_i (va_runV (As := [.int wt]) (rest := []) ⟨hx, hb, hml, hown, hts⟩ ((m_isNode l D cI cZ qm n S P x wt (hn1) (hn5) (hS1) (hS4) (hP5) (hP64)) H.size) (cwV 1 hts (gV wd486 wd488 sl_Model_isNode wd7 wd489) rfl rfl rfl (by decide +kernel) ⟨Nat.le_of_ble_eq_true rfl, Nat.le_of_ble_eq_true rfl⟩) ⟨fb_PW, va_recv (q0 := 0) (ci := 5) hK hPc rfl rfl, pre_PW hK hPc hDc hZ⟩ rfl rfl hl.1 rfl (lv_room (Nat.le_of_ble_eq_true rfl)) dModel_heard_18 ⟨Nat.zero_le _, Nat.zero_le _⟩) hP hD hS hA [0, 1, 2, 3, 4, 5, 6, 7, 8, 9, 10, 11, 12, 13, 14, 15, 16, 17, 18, 19, 20] [] rfl rfl (by decide) (by decide) (fun r w1 H locs hw hP hD hS => ?_)
      rcases hw with ⟨rfl, h18, rfl⟩ | ⟨rfl, h18, rfl⟩
      · have hP : va_P D vwCl (wM qm cI cZ n S P x) H := hP
        have hD : va_D A (wM qm cI cZ n S P x) := hD
        obtain ⟨c9, hc9, rfl⟩ := okN_of (show n < 2 ^ 31 by omega) h18
        refine lv_if_eq (tgt := 42) hx hb dModel_heard_21 (by decide) (fun h9 => absurd h9 (by decide)) (fun _ => ?_)
        refine lv_aload_n hx hb dModel_heard_24 rfl (lv_at hl 0 rfl) ?_
        refine va_get (D := D) (ci := 5) (v := .ref (qm 18)) (C := RModel) (T := TModel) (N := 25) hx hb hts (fun w h => mc (uModel_in w h)) hown hK hP 0 rfl rfl 20 (by decide) (hts _ (mc wd425)) (fun _ h9 => h9) rfl dModel_heard_25 ?_
        refine lv_bipush (v := nI 20) hx hb dModel_heard_28 (by decide) ?_
        refine lv_iload_n hx hb dModel_heard_30 rfl (lv_at hl 1 rfl) ?_
        refine lv_imul hx hb dModel_heard_31 ?_
        refine lv_topi (nm_r (pk_mul _ _) ?_)
        refine lv_iconst (v := nI 5) hx hb dModel_heard_32 (by decide) ?_
        refine lv_iload_n hx hb dModel_heard_33 rfl (lv_at hl 2 rfl) ?_
        refine lv_imul hx hb dModel_heard_34 ?_
        refine lv_topi (nm_r (pk_mul _ _) ?_)
        refine lv_iadd hx hb dModel_heard_35 ?_
        refine lv_topi (nm_r (nI_add _ _) ?_)
        refine lv_iload_n hx hb dModel_heard_36 rfl (lv_at hl 3 rfl) ?_
        refine lv_iadd hx hb dModel_heard_37 ?_
        refine lv_topi (nm_r (nI_add _ _) ?_)
        refine ka_ld (v := x.2 0 a t c9) hx hb hK hP 18 0 rfl rfl (by omega) (by omega) (hr_at (by omega) (by omega)) dModel_heard_38 ?_
        refine lv_goto (tgt := 43) hx hb dModel_heard_39 (by decide) ?_
        exact W.iret (v := x.2 0 a t c9) hx hb hr (fun t9 ht9 hW9 => ⟨⟨x.2 0 a t c9, (wM qm cI cZ n S P x), rfl, ⟨by unfold aHeard; rw [if_pos ⟨h2, h10, h18⟩, ix_nI ha (by omega), ix_nI ht (by omega), ix_nI hc9 (by omega)], rfl⟩, by rw [ht9]; exact hP, va_K.moved hW9.alike hK, hD⟩, hS.F ht9⟩) hS.2.2 dModel_heard_43
      · have hP : va_P D vwCl (wM qm cI cZ n S P x) H := hP
        have hD : va_D A (wM qm cI cZ n S P x) := hD
        refine lv_if_eq (tgt := 42) hx hb dModel_heard_21 (by decide) (fun _ => ?_) (fun h9 => absurd (by decide) h9)
        refine lv_iconst (v := (-1)) hx hb dModel_heard_42 (by decide) ?_
        exact W.iret (v := (-1)) hx hb hr (fun t9 ht9 hW9 => ⟨⟨(-1), (wM qm cI cZ n S P x), rfl, ⟨by unfold aHeard; rw [if_neg (fun h => h18 h.2.2)], rfl⟩, by rw [ht9]; exact hP, va_K.moved hW9.alike hK, hD⟩, hS.F ht9⟩) hS.2.2 dModel_heard_43
    · have hP : va_P D vwCl (wM qm cI cZ n S P x) H := hP
      have hD : va_D A (wM qm cI cZ n S P x) := hD
      refine lv_if_eq (tgt := 42) hx hb dModel_heard_13 (by decide) (fun _ => ?_) (fun h9 => absurd (by decide) h9)
      refine lv_iconst (v := (-1)) hx hb dModel_heard_42 (by decide) ?_
      exact W.iret (v := (-1)) hx hb hr (fun t9 ht9 hW9 => ⟨⟨(-1), (wM qm cI cZ n S P x), rfl, ⟨by unfold aHeard; rw [if_neg (fun h => h10 h.2.1)], rfl⟩, by rw [ht9]; exact hP, va_K.moved hW9.alike hK, hD⟩, hS.F ht9⟩) hS.2.2 dModel_heard_43
  · have hP : va_P D vwCl (wM qm cI cZ n S P x) H := hP
    have hD : va_D A (wM qm cI cZ n S P x) := hD
    refine lv_if_eq (tgt := 42) hx hb dModel_heard_5 (by decide) (fun _ => ?_) (fun h9 => absurd (by decide) h9)
    refine lv_iconst (v := (-1)) hx hb dModel_heard_42 (by decide) ?_
    exact W.iret (v := (-1)) hx hb hr (fun t9 ht9 hW9 => ⟨⟨(-1), (wM qm cI cZ n S P x), rfl, ⟨by unfold aHeard; rw [if_neg (fun h => h2 h.1)], rfl⟩, by rw [ht9]; exact hP, va_K.moved hW9.alike hK, hD⟩, hS.F ht9⟩) hS.2.2 dModel_heard_43
theorem dModel_message_0 : decode cModel_message 0 = .ok (.aload_n 0, 1) := by decide +kernel
theorem dModel_message_1 : decode cModel_message 1 = .ok (.iload_n 1, 1) := by decide +kernel
theorem dModel_message_2 : decode cModel_message 2 = .ok (.invokevirtual 124, 3) := by decide +kernel
theorem dModel_message_5 : decode cModel_message 5 = .ok (.ifCond .ne 5, 3) := by decide +kernel
theorem dModel_message_8 : decode cModel_message 8 = .ok (.iconst (-1), 1) := by decide +kernel
theorem dModel_message_9 : decode cModel_message 9 = .ok (.ireturn, 1) := by decide +kernel
theorem dModel_message_10 : decode cModel_message 10 = .ok (.iload_n 2, 1) := by decide +kernel
theorem dModel_message_11 : decode cModel_message 11 = .ok (.tableswitch 90 0 6 #[41, 48, 55, 62, 69, 76, 83], 41) := by decide +kernel
theorem dModel_message_52 : decode cModel_message 52 = .ok (.aload_n 0, 1) := by decide +kernel
theorem dModel_message_53 : decode cModel_message 53 = .ok (.getfield 13, 3) := by decide +kernel
theorem dModel_message_56 : decode cModel_message 56 = .ok (.iload_n 1, 1) := by decide +kernel
theorem dModel_message_57 : decode cModel_message 57 = .ok (.iaload, 1) := by decide +kernel
theorem dModel_message_58 : decode cModel_message 58 = .ok (.ireturn, 1) := by decide +kernel
theorem dModel_message_59 : decode cModel_message 59 = .ok (.aload_n 0, 1) := by decide +kernel
theorem dModel_message_60 : decode cModel_message 60 = .ok (.getfield 17, 3) := by decide +kernel
theorem dModel_message_63 : decode cModel_message 63 = .ok (.iload_n 1, 1) := by decide +kernel
theorem dModel_message_64 : decode cModel_message 64 = .ok (.iaload, 1) := by decide +kernel
theorem dModel_message_65 : decode cModel_message 65 = .ok (.ireturn, 1) := by decide +kernel
theorem dModel_message_66 : decode cModel_message 66 = .ok (.aload_n 0, 1) := by decide +kernel
theorem dModel_message_67 : decode cModel_message 67 = .ok (.getfield 20, 3) := by decide +kernel
theorem dModel_message_70 : decode cModel_message 70 = .ok (.iload_n 1, 1) := by decide +kernel
theorem dModel_message_71 : decode cModel_message 71 = .ok (.iaload, 1) := by decide +kernel
theorem dModel_message_72 : decode cModel_message 72 = .ok (.ireturn, 1) := by decide +kernel
theorem dModel_message_73 : decode cModel_message 73 = .ok (.aload_n 0, 1) := by decide +kernel
theorem dModel_message_74 : decode cModel_message 74 = .ok (.getfield 23, 3) := by decide +kernel
theorem dModel_message_77 : decode cModel_message 77 = .ok (.iload_n 1, 1) := by decide +kernel
theorem dModel_message_78 : decode cModel_message 78 = .ok (.iaload, 1) := by decide +kernel
theorem dModel_message_79 : decode cModel_message 79 = .ok (.ireturn, 1) := by decide +kernel
theorem dModel_message_80 : decode cModel_message 80 = .ok (.aload_n 0, 1) := by decide +kernel
theorem dModel_message_81 : decode cModel_message 81 = .ok (.getfield 26, 3) := by decide +kernel
theorem dModel_message_84 : decode cModel_message 84 = .ok (.iload_n 1, 1) := by decide +kernel
theorem dModel_message_85 : decode cModel_message 85 = .ok (.iaload, 1) := by decide +kernel
theorem dModel_message_86 : decode cModel_message 86 = .ok (.ireturn, 1) := by decide +kernel
theorem dModel_message_87 : decode cModel_message 87 = .ok (.aload_n 0, 1) := by decide +kernel
theorem dModel_message_88 : decode cModel_message 88 = .ok (.getfield 29, 3) := by decide +kernel
theorem dModel_message_91 : decode cModel_message 91 = .ok (.iload_n 1, 1) := by decide +kernel
theorem dModel_message_92 : decode cModel_message 92 = .ok (.iaload, 1) := by decide +kernel
theorem dModel_message_93 : decode cModel_message 93 = .ok (.ireturn, 1) := by decide +kernel
theorem dModel_message_94 : decode cModel_message 94 = .ok (.aload_n 0, 1) := by decide +kernel
theorem dModel_message_95 : decode cModel_message 95 = .ok (.getfield 32, 3) := by decide +kernel
theorem dModel_message_98 : decode cModel_message 98 = .ok (.iload_n 1, 1) := by decide +kernel
theorem dModel_message_99 : decode cModel_message 99 = .ok (.iaload, 1) := by decide +kernel
theorem dModel_message_100 : decode cModel_message 100 = .ok (.ireturn, 1) := by decide +kernel
theorem dModel_message_101 : decode cModel_message 101 = .ok (.iconst (-1), 1) := by decide +kernel
theorem dModel_message_102 : decode cModel_message 102 = .ok (.ireturn, 1) := by decide +kernel
set_option maxRecDepth 100000 in
set_option maxHeartbeats 4000000 in
theorem m_message (l : Launch) (D : va_G) (cI cZ : ClassId) (qm : Nat → Nat) (n : Nat) (S : Nat) (P : Nat) (x : St) (v : Int32) (wt : Int32) (hn1 : 1 ≤ n) (hn5 : n ≤ 5) (hS1 : 1 ≤ S) (hS4 : S ≤ 4) (hP5 : 5 ≤ P) (hP64 : P ≤ 64) (hIn : Inv n S x) : MI l D [(cI, .int), (cZ, .boolean)] yModel_message wsModel_message ({ frames := 1, cells := 0, slots := 0, locals := 21 }) [.ref (qm 0), .int v, .int wt] (wM qm cI cZ n S P x) (fun r w => r = aMsg P x v wt ∧ w = (wM qm cI cZ n S P x)) := by
  intro sz
  refine Met.ofW (cc := cModel_message) (maxL := 3) (ret := (Option.some .int)) (by decide) rfl ?_
  intro p e s m args below meth c s₁ B hml hv
  obtain ⟨rfl, hsz, hP, hK, hD0, hZ⟩ := hv
  have hx := B.exec
  have hb := B.bytes
  have hr := B.returns
  have hts := atoms_spec (ws := wsModel_message) B.pre
  have hown : s.vm.findClass RModel = some m.cls := findClass_of_methodNamed B.named
  have hlocks := B.notSynchronized
  subst hsz
  have hD := hD0.self (sz := s.heap.size)
  generalize hAe : va_A (wM qm cI cZ n S P x) s.heap.size = A at hD ⊢
  have hA : ∀ q : Nat, s.heap.size ≤ q → A q := fun q h => by rw [← hAe]; exact Or.inr h
  have hS : va_S A s.heap s.heap [] := va_S.rf
  have hP : va_P D vwCl (wM qm cI cZ n S P x) s.heap := hP
  have hl := lv_entry ([.ref (qm 0), .int v, .int wt]) (n := 3) (Nat.le_of_ble_eq_true rfl)
  rw [lg_entry_eq]
  generalize (lg_sl ([.ref (qm 0), .int v, .int wt]) ++ List.replicate (3 - (lg_sl ([.ref (qm 0), .int v, .int wt])).length) Slot.unset).toArray = ls at hl ⊢
  have hl : lv_has ls 3 [(0, .ref (qm 0)), (1, .int v), (2, .int wt)] := hl
  refine lv_aload_n hx hb dModel_message_0 rfl (lv_at hl 0 rfl) ?_
  refine lv_iload_n hx hb dModel_message_1 rfl (lv_at hl 1 rfl) ?_
  have hPc := hP.sub (ws' := (wM qm cI cZ n S P x)) [0, 1, 2, 3, 4, 5, 6, 7, 8, 9, 10, 11, 12, 13, 14, 15, 16, 17, 18, 19, 20] rfl
  have hDc := hD.sub (ws' := (wM qm cI cZ n S P x)) [0, 1, 2, 3, 4, 5, 6, 7, 8, 9, 10, 11, 12, 13, 14, 15, 16, 17, 18, 19, 20] (by decide) rfl
  refine kx_i (va_runV (As := [.int v]) (rest := []) ⟨hx, hb, hml, hown, hts⟩ ((m_isMessage l D cI cZ qm n S P x v (hn1) (hn5) (hS1) (hS4) (hP5) (hP64) (hIn.1)) s.heap.size) (cwV 1 hts (gV wd510 wd512 sl_Model_isMessage wd7 wd513) rfl rfl rfl (by decide +kernel) ⟨Nat.le_of_ble_eq_true rfl, Nat.le_of_ble_eq_true rfl⟩) ⟨fb_PW, va_recv (q0 := 0) (ci := 5) hK hPc rfl rfl, pre_PW hK hPc hDc hZ⟩ rfl rfl hl.1 rfl (lv_room (Nat.le_of_ble_eq_true rfl)) dModel_message_2 ⟨Nat.zero_le _, Nat.zero_le _⟩) hP hD hS hA [0, 1, 2, 3, 4, 5, 6, 7, 8, 9, 10, 11, 12, 13, 14, 15, 16, 17, 18, 19, 20] [] rfl rfl (by decide) (by decide) (fun r w1 H locs hw hP hD hS => ?_)
  rcases hw with ⟨rfl, h2, rfl⟩ | ⟨rfl, h2, rfl⟩
  · have hP : va_P D vwCl (wM qm cI cZ n S P x) H := hP
    have hD : va_D A (wM qm cI cZ n S P x) := hD
    obtain ⟨j, hj, rfl⟩ := okN_of (show P < 2 ^ 31 by omega) h2.1
    have hk0 : x.1 0 j 0 ≠ 0 := by have h6 := h2.2; rw [ix_nI hj (by omega)] at h6; exact h6
    have hisM : isM P x (nI j) := h2
    refine lv_if_ne (tgt := 10) hx hb dModel_message_5 (by decide) (fun _ => ?_) (fun h9 => absurd h9 (by decide))
    refine lv_iload_n hx hb dModel_message_10 rfl (lv_at hl 2 rfl) ?_
    by_cases k11_0 : wt = nI 0
    · refine lv_topi (nm_r (k11_0) ?_)
      refine lv_tableIn (tgt := 52) hx hb dModel_message_11 (by decide) (by decide) rfl (by decide) ?_
      refine lv_aload_n hx hb dModel_message_52 rfl (lv_at hl 0 rfl) ?_
      refine va_get (D := D) (ci := 5) (v := .ref (qm 2)) (C := RModel) (T := TModel) (N := 25) hx hb hts (fun w h => mc (uModel_in w h)) hown hK hP 0 rfl rfl 4 (by decide) (hts _ (mc wd409)) (fun _ h9 => h9) rfl dModel_message_53 ?_
      refine lv_iload_n hx hb dModel_message_56 rfl (lv_at hl 1 rfl) ?_
      refine ka_ld (v := x.1 0 j 0) hx hb hK hP 2 0 rfl rfl (by omega) (by omega) rfl dModel_message_57 ?_
      exact W.iret (v := x.1 0 j 0) hx hb hr (fun t9 ht9 hW9 => ⟨⟨x.1 0 j 0, (wM qm cI cZ n S P x), rfl, ⟨by unfold aMsg; rw [if_pos ⟨hisM, by rw [k11_0]; exact okN_nI (by decide) (by decide)⟩, ix_nI hj (by omega), k11_0, ix_nI (show 0 < 7 by decide) (by decide)], rfl⟩, by rw [ht9]; exact hP, va_K.moved hW9.alike hK, hD⟩, hS.F ht9⟩) hS.2.2 dModel_message_58
    by_cases k11_1 : wt = nI 1
    · refine lv_topi (nm_r (k11_1) ?_)
      refine lv_tableIn (tgt := 59) hx hb dModel_message_11 (by decide) (by decide) rfl (by decide) ?_
      refine lv_aload_n hx hb dModel_message_59 rfl (lv_at hl 0 rfl) ?_
      refine va_get (D := D) (ci := 5) (v := .ref (qm 3)) (C := RModel) (T := TModel) (N := 25) hx hb hts (fun w h => mc (uModel_in w h)) hown hK hP 0 rfl rfl 5 (by decide) (hts _ (mc wd410)) (fun _ h9 => h9) rfl dModel_message_60 ?_
      refine lv_iload_n hx hb dModel_message_63 rfl (lv_at hl 1 rfl) ?_
      refine ka_ld (v := x.1 0 j 1) hx hb hK hP 3 0 rfl rfl (by omega) (by omega) rfl dModel_message_64 ?_
      exact W.iret (v := x.1 0 j 1) hx hb hr (fun t9 ht9 hW9 => ⟨⟨x.1 0 j 1, (wM qm cI cZ n S P x), rfl, ⟨by unfold aMsg; rw [if_pos ⟨hisM, by rw [k11_1]; exact okN_nI (by decide) (by decide)⟩, ix_nI hj (by omega), k11_1, ix_nI (show 1 < 7 by decide) (by decide)], rfl⟩, by rw [ht9]; exact hP, va_K.moved hW9.alike hK, hD⟩, hS.F ht9⟩) hS.2.2 dModel_message_65
    by_cases k11_2 : wt = nI 2
    · refine lv_topi (nm_r (k11_2) ?_)
      refine lv_tableIn (tgt := 66) hx hb dModel_message_11 (by decide) (by decide) rfl (by decide) ?_
      refine lv_aload_n hx hb dModel_message_66 rfl (lv_at hl 0 rfl) ?_
      refine va_get (D := D) (ci := 5) (v := .ref (qm 4)) (C := RModel) (T := TModel) (N := 25) hx hb hts (fun w h => mc (uModel_in w h)) hown hK hP 0 rfl rfl 6 (by decide) (hts _ (mc wd411)) (fun _ h9 => h9) rfl dModel_message_67 ?_
      refine lv_iload_n hx hb dModel_message_70 rfl (lv_at hl 1 rfl) ?_
      refine ka_ld (v := x.1 0 j 2) hx hb hK hP 4 0 rfl rfl (by omega) (by omega) rfl dModel_message_71 ?_
      exact W.iret (v := x.1 0 j 2) hx hb hr (fun t9 ht9 hW9 => ⟨⟨x.1 0 j 2, (wM qm cI cZ n S P x), rfl, ⟨by unfold aMsg; rw [if_pos ⟨hisM, by rw [k11_2]; exact okN_nI (by decide) (by decide)⟩, ix_nI hj (by omega), k11_2, ix_nI (show 2 < 7 by decide) (by decide)], rfl⟩, by rw [ht9]; exact hP, va_K.moved hW9.alike hK, hD⟩, hS.F ht9⟩) hS.2.2 dModel_message_72
    by_cases k11_3 : wt = nI 3
    · refine lv_topi (nm_r (k11_3) ?_)
      refine lv_tableIn (tgt := 73) hx hb dModel_message_11 (by decide) (by decide) rfl (by decide) ?_
      refine lv_aload_n hx hb dModel_message_73 rfl (lv_at hl 0 rfl) ?_
      refine va_get (D := D) (ci := 5) (v := .ref (qm 5)) (C := RModel) (T := TModel) (N := 25) hx hb hts (fun w h => mc (uModel_in w h)) hown hK hP 0 rfl rfl 7 (by decide) (hts _ (mc wd412)) (fun _ h9 => h9) rfl dModel_message_74 ?_
      refine lv_iload_n hx hb dModel_message_77 rfl (lv_at hl 1 rfl) ?_
      refine ka_ld (v := x.1 0 j 3) hx hb hK hP 5 0 rfl rfl (by omega) (by omega) rfl dModel_message_78 ?_
      exact W.iret (v := x.1 0 j 3) hx hb hr (fun t9 ht9 hW9 => ⟨⟨x.1 0 j 3, (wM qm cI cZ n S P x), rfl, ⟨by unfold aMsg; rw [if_pos ⟨hisM, by rw [k11_3]; exact okN_nI (by decide) (by decide)⟩, ix_nI hj (by omega), k11_3, ix_nI (show 3 < 7 by decide) (by decide)], rfl⟩, by rw [ht9]; exact hP, va_K.moved hW9.alike hK, hD⟩, hS.F ht9⟩) hS.2.2 dModel_message_79
    by_cases k11_4 : wt = nI 4
    · refine lv_topi (nm_r (k11_4) ?_)
      refine lv_tableIn (tgt := 80) hx hb dModel_message_11 (by decide) (by decide) rfl (by decide) ?_
      refine lv_aload_n hx hb dModel_message_80 rfl (lv_at hl 0 rfl) ?_
      refine va_get (D := D) (ci := 5) (v := .ref (qm 6)) (C := RModel) (T := TModel) (N := 25) hx hb hts (fun w h => mc (uModel_in w h)) hown hK hP 0 rfl rfl 8 (by decide) (hts _ (mc wd413)) (fun _ h9 => h9) rfl dModel_message_81 ?_
      refine lv_iload_n hx hb dModel_message_84 rfl (lv_at hl 1 rfl) ?_
      refine ka_ld (v := x.1 0 j 4) hx hb hK hP 6 0 rfl rfl (by omega) (by omega) rfl dModel_message_85 ?_
      exact W.iret (v := x.1 0 j 4) hx hb hr (fun t9 ht9 hW9 => ⟨⟨x.1 0 j 4, (wM qm cI cZ n S P x), rfl, ⟨by unfold aMsg; rw [if_pos ⟨hisM, by rw [k11_4]; exact okN_nI (by decide) (by decide)⟩, ix_nI hj (by omega), k11_4, ix_nI (show 4 < 7 by decide) (by decide)], rfl⟩, by rw [ht9]; exact hP, va_K.moved hW9.alike hK, hD⟩, hS.F ht9⟩) hS.2.2 dModel_message_86
    by_cases k11_5 : wt = nI 5
    · refine lv_topi (nm_r (k11_5) ?_)
      refine lv_tableIn (tgt := 87) hx hb dModel_message_11 (by decide) (by decide) rfl (by decide) ?_
      refine lv_aload_n hx hb dModel_message_87 rfl (lv_at hl 0 rfl) ?_
      refine va_get (D := D) (ci := 5) (v := .ref (qm 7)) (C := RModel) (T := TModel) (N := 25) hx hb hts (fun w h => mc (uModel_in w h)) hown hK hP 0 rfl rfl 9 (by decide) (hts _ (mc wd414)) (fun _ h9 => h9) rfl dModel_message_88 ?_
      refine lv_iload_n hx hb dModel_message_91 rfl (lv_at hl 1 rfl) ?_
      refine ka_ld (v := x.1 0 j 5) hx hb hK hP 7 0 rfl rfl (by omega) (by omega) rfl dModel_message_92 ?_
      exact W.iret (v := x.1 0 j 5) hx hb hr (fun t9 ht9 hW9 => ⟨⟨x.1 0 j 5, (wM qm cI cZ n S P x), rfl, ⟨by unfold aMsg; rw [if_pos ⟨hisM, by rw [k11_5]; exact okN_nI (by decide) (by decide)⟩, ix_nI hj (by omega), k11_5, ix_nI (show 5 < 7 by decide) (by decide)], rfl⟩, by rw [ht9]; exact hP, va_K.moved hW9.alike hK, hD⟩, hS.F ht9⟩) hS.2.2 dModel_message_93
    by_cases k11_6 : wt = nI 6
    · refine lv_topi (nm_r (k11_6) ?_)
      refine lv_tableIn (tgt := 94) hx hb dModel_message_11 (by decide) (by decide) rfl (by decide) ?_
      refine lv_aload_n hx hb dModel_message_94 rfl (lv_at hl 0 rfl) ?_
      refine va_get (D := D) (ci := 5) (v := .ref (qm 8)) (C := RModel) (T := TModel) (N := 25) hx hb hts (fun w h => mc (uModel_in w h)) hown hK hP 0 rfl rfl 10 (by decide) (hts _ (mc wd415)) (fun _ h9 => h9) rfl dModel_message_95 ?_
      refine lv_iload_n hx hb dModel_message_98 rfl (lv_at hl 1 rfl) ?_
      refine ka_ld (v := x.1 0 j 6) hx hb hK hP 8 0 rfl rfl (by omega) (by omega) rfl dModel_message_99 ?_
      exact W.iret (v := x.1 0 j 6) hx hb hr (fun t9 ht9 hW9 => ⟨⟨x.1 0 j 6, (wM qm cI cZ n S P x), rfl, ⟨by unfold aMsg; rw [if_pos ⟨hisM, by rw [k11_6]; exact okN_nI (by decide) (by decide)⟩, ix_nI hj (by omega), k11_6, ix_nI (show 6 < 7 by decide) (by decide)], rfl⟩, by rw [ht9]; exact hP, va_K.moved hW9.alike hK, hD⟩, hS.F ht9⟩) hS.2.2 dModel_message_100
    refine lv_tableOut (tgt := 101) hx hb dModel_message_11 (tb_out 0 6 (by intro j h1 h2; rcases (show j = 0 ∨ j = 1 ∨ j = 2 ∨ j = 3 ∨ j = 4 ∨ j = 5 ∨ j = 6 by omega) with rfl | rfl | rfl | rfl | rfl | rfl | rfl <;> assumption)) (by decide) ?_
    refine lv_iconst (v := (-1)) hx hb dModel_message_101 (by decide) ?_
    have hno : ¬ okN wt 7 := by
      intro h7
      obtain ⟨j9, hj9, hw9⟩ := okN_of (by decide) h7
      rcases (show j9 = 0 ∨ j9 = 1 ∨ j9 = 2 ∨ j9 = 3 ∨ j9 = 4 ∨ j9 = 5 ∨ j9 = 6 by omega) with rfl | rfl | rfl | rfl | rfl | rfl | rfl <;> contradiction
    exact W.iret (v := (-1)) hx hb hr (fun t9 ht9 hW9 => ⟨⟨(-1), (wM qm cI cZ n S P x), rfl, ⟨by unfold aMsg; rw [if_neg (fun h => hno h.2)], rfl⟩, by rw [ht9]; exact hP, va_K.moved hW9.alike hK, hD⟩, hS.F ht9⟩) hS.2.2 dModel_message_102
  · have hP : va_P D vwCl (wM qm cI cZ n S P x) H := hP
    have hD : va_D A (wM qm cI cZ n S P x) := hD
    refine lv_if_ne (tgt := 10) hx hb dModel_message_5 (by decide) (fun h9 => absurd (by decide) h9) (fun _ => ?_)
    refine lv_iconst (v := (-1)) hx hb dModel_message_8 (by decide) ?_
    exact W.iret (v := (-1)) hx hb hr (fun t9 ht9 hW9 => ⟨⟨(-1), (wM qm cI cZ n S P x), rfl, ⟨by unfold aMsg; rw [if_neg (fun h => h2 h.1)], rfl⟩, by rw [ht9]; exact hP, va_K.moved hW9.alike hK, hD⟩, hS.F ht9⟩) hS.2.2 dModel_message_9
theorem dModel_pfx_0 : decode cModel_pfx 0 = .ok (.aload_n 0, 1) := by decide +kernel
theorem dModel_pfx_1 : decode cModel_pfx 1 = .ok (.iload_n 1, 1) := by decide +kernel
theorem dModel_pfx_2 : decode cModel_pfx 2 = .ok (.invokevirtual 85, 3) := by decide +kernel
theorem dModel_pfx_5 : decode cModel_pfx 5 = .ok (.ifCond .ne 5, 3) := by decide +kernel
theorem dModel_pfx_8 : decode cModel_pfx 8 = .ok (.iconst (-1), 1) := by decide +kernel
theorem dModel_pfx_9 : decode cModel_pfx 9 = .ok (.ireturn, 1) := by decide +kernel
theorem dModel_pfx_10 : decode cModel_pfx 10 = .ok (.iconst 0, 1) := by decide +kernel
theorem dModel_pfx_11 : decode cModel_pfx 11 = .ok (.istore_n 2, 1) := by decide +kernel
theorem dModel_pfx_12 : decode cModel_pfx 12 = .ok (.iload_n 2, 1) := by decide +kernel
theorem dModel_pfx_13 : decode cModel_pfx 13 = .ok (.aload_n 0, 1) := by decide +kernel
theorem dModel_pfx_14 : decode cModel_pfx 14 = .ok (.getfield 75, 3) := by decide +kernel
theorem dModel_pfx_17 : decode cModel_pfx 17 = .ok (.if_icmp .ge 22, 3) := by decide +kernel
theorem dModel_pfx_20 : decode cModel_pfx 20 = .ok (.aload_n 0, 1) := by decide +kernel
theorem dModel_pfx_21 : decode cModel_pfx 21 = .ok (.getfield 68, 3) := by decide +kernel
theorem dModel_pfx_24 : decode cModel_pfx 24 = .ok (.iconst 4, 1) := by decide +kernel
theorem dModel_pfx_25 : decode cModel_pfx 25 = .ok (.iload_n 1, 1) := by decide +kernel
theorem dModel_pfx_26 : decode cModel_pfx 26 = .ok (.imul, 1) := by decide +kernel
theorem dModel_pfx_27 : decode cModel_pfx 27 = .ok (.iload_n 2, 1) := by decide +kernel
theorem dModel_pfx_28 : decode cModel_pfx 28 = .ok (.iadd, 1) := by decide +kernel
theorem dModel_pfx_29 : decode cModel_pfx 29 = .ok (.iaload, 1) := by decide +kernel
theorem dModel_pfx_30 : decode cModel_pfx 30 = .ok (.ifCond .le 9, 3) := by decide +kernel
theorem dModel_pfx_33 : decode cModel_pfx 33 = .ok (.iinc 2  1, 3) := by decide +kernel
theorem dModel_pfx_36 : decode cModel_pfx 36 = .ok (.goto (-24), 3) := by decide +kernel
theorem dModel_pfx_39 : decode cModel_pfx 39 = .ok (.iload_n 2, 1) := by decide +kernel
theorem dModel_pfx_40 : decode cModel_pfx 40 = .ok (.ireturn, 1) := by decide +kernel
set_option maxRecDepth 100000 in
set_option maxHeartbeats 4000000 in
theorem m_pfx (l : Launch) (D : va_G) (cI cZ : ClassId) (qm : Nat → Nat) (n : Nat) (S : Nat) (P : Nat) (x : St) (nd : Int32) (hn1 : 1 ≤ n) (hn5 : n ≤ 5) (hS1 : 1 ≤ S) (hS4 : S ≤ 4) (hP5 : 5 ≤ P) (hP64 : P ≤ 64) (hIv : Ival x) : MI l D [(cI, .int), (cZ, .boolean)] yModel_pfx wsModel_pfx ({ frames := 1, cells := 0, slots := 0, locals := 21 }) [.ref (qm 0), .int nd] (wM qm cI cZ n S P x) (fun r w => r = aPfx n S x nd ∧ w = (wM qm cI cZ n S P x)) := by
  intro sz
  refine Met.ofW (cc := cModel_pfx) (maxL := 3) (ret := (Option.some .int)) (by decide) rfl ?_
  intro p e s m args below meth c s₁ B hml hv
  obtain ⟨rfl, hsz, hP, hK, hD0, hZ⟩ := hv
  have hx := B.exec
  have hb := B.bytes
  have hr := B.returns
  have hts := atoms_spec (ws := wsModel_pfx) B.pre
  have hown : s.vm.findClass RModel = some m.cls := findClass_of_methodNamed B.named
  have hlocks := B.notSynchronized
  subst hsz
  have hD := hD0.self (sz := s.heap.size)
  generalize hAe : va_A (wM qm cI cZ n S P x) s.heap.size = A at hD ⊢
  have hA : ∀ q : Nat, s.heap.size ≤ q → A q := fun q h => by rw [← hAe]; exact Or.inr h
  have hS : va_S A s.heap s.heap [] := va_S.rf
  have hP : va_P D vwCl (wM qm cI cZ n S P x) s.heap := hP
  have hl := lv_entry ([.ref (qm 0), .int nd]) (n := 3) (Nat.le_of_ble_eq_true rfl)
  rw [lg_entry_eq]
  generalize (lg_sl ([.ref (qm 0), .int nd]) ++ List.replicate (3 - (lg_sl ([.ref (qm 0), .int nd])).length) Slot.unset).toArray = ls at hl ⊢
  have hl : lv_has ls 3 [(0, .ref (qm 0)), (1, .int nd)] := hl
  refine lv_aload_n hx hb dModel_pfx_0 rfl (lv_at hl 0 rfl) ?_
  refine lv_iload_n hx hb dModel_pfx_1 rfl (lv_at hl 1 rfl) ?_
  have hPc := hP.sub (ws' := (wM qm cI cZ n S P x)) [0, 1, 2, 3, 4, 5, 6, 7, 8, 9, 10, 11, 12, 13, 14, 15, 16, 17, 18, 19, 20] rfl
  have hDc := hD.sub (ws' := (wM qm cI cZ n S P x)) [0, 1, 2, 3, 4, 5, 6, 7, 8, 9, 10, 11, 12, 13, 14, 15, 16, 17, 18, 19, 20] (by decide) rfl
  refine kx_i (va_runV (As := [.int nd]) (rest := []) ⟨hx, hb, hml, hown, hts⟩ ((m_isNode l D cI cZ qm n S P x nd (hn1) (hn5) (hS1) (hS4) (hP5) (hP64)) s.heap.size) (cwV 1 hts (gV wd486 wd488 sl_Model_isNode wd7 wd489) rfl rfl rfl (by decide +kernel) ⟨Nat.le_of_ble_eq_true rfl, Nat.le_of_ble_eq_true rfl⟩) ⟨fb_PW, va_recv (q0 := 0) (ci := 5) hK hPc rfl rfl, pre_PW hK hPc hDc hZ⟩ rfl rfl hl.1 rfl (lv_room (Nat.le_of_ble_eq_true rfl)) dModel_pfx_2 ⟨Nat.zero_le _, Nat.zero_le _⟩) hP hD hS hA [0, 1, 2, 3, 4, 5, 6, 7, 8, 9, 10, 11, 12, 13, 14, 15, 16, 17, 18, 19, 20] [] rfl rfl (by decide) (by decide) (fun r w1 H locs hw hP hD hS => ?_)
  rcases hw with ⟨rfl, h2, rfl⟩ | ⟨rfl, h2, rfl⟩
  · have hP : va_P D vwCl (wM qm cI cZ n S P x) H := hP
    have hD : va_D A (wM qm cI cZ n S P x) := hD
    obtain ⟨a, ha, rfl⟩ := okN_of (show n < 2 ^ 31 by omega) h2
    refine lv_if_ne (tgt := 10) hx hb dModel_pfx_5 (by decide) (fun _ => ?_) (fun h9 => absurd h9 (by decide))
    refine lv_iconst (v := nI 0) hx hb dModel_pfx_10 (by decide) ?_
    refine lv_istore_n hx hb dModel_pfx_11 rfl hl (by decide) rfl (fun ls hl => ?_)
    have hl : lv_has ls 3 [(2, .int (nI 0)), (0, .ref (qm 0)), (1, .int (nI a))] := hl
    have loop12 : ∀ (d12 i : Nat) (ls : Array Slot) (H : Heap) (locs : List Loc), i + d12 = S → lst (x.1 11 a) d12 i = lst (x.1 11 a) S 0 → lv_has ls 3 [(2, .int (nI i)), (0, .ref (qm 0)), (1, .int (nI a))] → va_P D vwCl (wM qm cI cZ n S P x) H → va_D A (wM qm cI cZ n S P x) → va_S A s.heap H locs → W p l e (headSpec wsModel_pfx { frames := 1, cells := 0, slots := 0, locals := 21 }).room s m [.ref (qm 0), .int (nI a)].toArray below meth c H locs 0 0 (MQ below (va_Qi (fun r w => r = aPfx n S x (nI a) ∧ w = (wM qm cI cZ n S P x)) (QW D [(cI, .int), (cZ, .boolean)] A) A) [.ref (qm 0), .int (nI a)].toArray s 0 0 A) (F0 m 12 ls []) := by
      intro d12
      induction d12 with
      | zero =>
        intro i ls H locs hid12 hF hl hP hD hS
        refine lv_iload_n hx hb dModel_pfx_12 rfl (lv_at hl 0 rfl) ?_
        refine lv_aload_n hx hb dModel_pfx_13 rfl (lv_at hl 1 rfl) ?_
        refine va_get (D := D) (ci := 5) (v := .int (nI S)) (C := RModel) (T := TModel) (N := 25) hx hb hts (fun w h => mc (uModel_in w h)) hown hK hP 0 rfl rfl 1 (by decide) (hts _ (mc wd406)) (fun _ h9 => h9) rfl dModel_pfx_14 ?_
        refine lv_icmp_ge (tgt := 39) hx hb dModel_pfx_17 (by decide) (fun _ => ?_) (fun h9 => absurd (nI_le (by omega) (by omega)) h9)
        refine lv_iload_n hx hb dModel_pfx_39 rfl (lv_at hl 0 rfl) ?_
        have hFi : i = lst (x.1 11 a) S 0 := hF
        rw [hFi]
        exact W.iret (v := nI (lst (x.1 11 a) S 0)) hx hb hr (fun t9 ht9 hW9 => ⟨⟨nI (lst (x.1 11 a) S 0), (wM qm cI cZ n S P x), rfl, ⟨by unfold aPfx; rw [if_pos h2, ix_nI ha (by omega)], rfl⟩, by rw [ht9]; exact hP, va_K.moved hW9.alike hK, hD⟩, hS.F ht9⟩) hS.2.2 dModel_pfx_40
      | succ d12 ih12 =>
        intro i ls H locs hid12 hF hl hP hD hS
        refine lv_iload_n hx hb dModel_pfx_12 rfl (lv_at hl 0 rfl) ?_
        refine lv_aload_n hx hb dModel_pfx_13 rfl (lv_at hl 1 rfl) ?_
        refine va_get (D := D) (ci := 5) (v := .int (nI S)) (C := RModel) (T := TModel) (N := 25) hx hb hts (fun w h => mc (uModel_in w h)) hown hK hP 0 rfl rfl 1 (by decide) (hts _ (mc wd406)) (fun _ h9 => h9) rfl dModel_pfx_14 ?_
        refine lv_icmp_ge (tgt := 39) hx hb dModel_pfx_17 (by decide) (fun h9 => absurd h9 (nI_ge (by omega) (by omega))) (fun _ => ?_)
        refine lv_aload_n hx hb dModel_pfx_20 rfl (lv_at hl 1 rfl) ?_
        refine va_get (D := D) (ci := 5) (v := .ref (qm 20)) (C := RModel) (T := TModel) (N := 25) hx hb hts (fun w h => mc (uModel_in w h)) hown hK hP 0 rfl rfl 22 (by decide) (hts _ (mc wd427)) (fun _ h9 => h9) rfl dModel_pfx_21 ?_
        refine lv_iconst (v := nI 4) hx hb dModel_pfx_24 (by decide) ?_
        refine lv_iload_n hx hb dModel_pfx_25 rfl (lv_at hl 2 rfl) ?_
        refine lv_imul hx hb dModel_pfx_26 ?_
        refine lv_topi (nm_r ((pk_mul _ _).trans (congrArg nI (Nat.mul_comm _ _))) ?_)
        refine lv_iload_n hx hb dModel_pfx_27 rfl (lv_at hl 0 rfl) ?_
        refine lv_iadd hx hb dModel_pfx_28 ?_
        refine lv_topi (nm_r (nI_add _ _) ?_)
        refine ka_ld (v := x.1 11 a i) hx hb hK hP 20 0 rfl rfl (by omega) (by omega) (sq_at (by omega)) dModel_pfx_29 ?_
        refine lv_if_le (tgt := 39) hx hb dModel_pfx_30 (by decide) (fun c30 => ?_) (fun c30 => ?_)
        · refine lv_iload_n hx hb dModel_pfx_39 rfl (lv_at hl 0 rfl) ?_
          have hFi : i = lst (x.1 11 a) S 0 := by rw [← hF]; exact (lst_s (le0 (hIv.2.2.2.2 a i) c30)).symm
          rw [hFi]
          exact W.iret (v := nI (lst (x.1 11 a) S 0)) hx hb hr (fun t9 ht9 hW9 => ⟨⟨nI (lst (x.1 11 a) S 0), (wM qm cI cZ n S P x), rfl, ⟨by unfold aPfx; rw [if_pos h2, ix_nI ha (by omega)], rfl⟩, by rw [ht9]; exact hP, va_K.moved hW9.alike hK, hD⟩, hS.F ht9⟩) hS.2.2 dModel_pfx_40
        · refine lv_iinc (k := 0) (v := nI (i + 1)) hx hb dModel_pfx_33 hl rfl ((nI_succ _).symm) (by decide) rfl (fun ls hl => ?_)
          have hl : lv_has ls 3 [(2, .int (nI (i + 1))), (0, .ref (qm 0)), (1, .int (nI a))] := hl
          refine lv_goto (tgt := 12) hx hb dModel_pfx_36 (by decide) ?_
          exact ih12 (i + 1) ls H locs (by omega) (by rw [← hF]; exact (lst_n (fun e9 => c30 (by rw [e9]; decide))).symm) hl hP hD hS
    exact loop12 S 0 ls H locs (by omega) (rfl) hl hP hD hS
  · have hP : va_P D vwCl (wM qm cI cZ n S P x) H := hP
    have hD : va_D A (wM qm cI cZ n S P x) := hD
    refine lv_if_ne (tgt := 10) hx hb dModel_pfx_5 (by decide) (fun h9 => absurd (by decide) h9) (fun _ => ?_)
    refine lv_iconst (v := (-1)) hx hb dModel_pfx_8 (by decide) ?_
    exact W.iret (v := (-1)) hx hb hr (fun t9 ht9 hW9 => ⟨⟨(-1), (wM qm cI cZ n S P x), rfl, ⟨by unfold aPfx; rw [if_neg h2], rfl⟩, by rw [ht9]; exact hP, va_K.moved hW9.alike hK, hD⟩, hS.F ht9⟩) hS.2.2 dModel_pfx_9
theorem dModel_count_0 : decode cModel_count 0 = .ok (.iconst 0, 1) := by decide +kernel
theorem dModel_count_1 : decode cModel_count 1 = .ok (.istore_n 2, 1) := by decide +kernel
theorem dModel_count_2 : decode cModel_count 2 = .ok (.iconst 0, 1) := by decide +kernel
theorem dModel_count_3 : decode cModel_count 3 = .ok (.istore_n 3, 1) := by decide +kernel
theorem dModel_count_4 : decode cModel_count 4 = .ok (.iload_n 3, 1) := by decide +kernel
theorem dModel_count_5 : decode cModel_count 5 = .ok (.aload_n 0, 1) := by decide +kernel
theorem dModel_count_6 : decode cModel_count 6 = .ok (.getfield 71, 3) := by decide +kernel
theorem dModel_count_9 : decode cModel_count 9 = .ok (.if_icmp .ge 28, 3) := by decide +kernel
theorem dModel_count_12 : decode cModel_count 12 = .ok (.aload_n 0, 1) := by decide +kernel
theorem dModel_count_13 : decode cModel_count 13 = .ok (.getfield 7, 3) := by decide +kernel
theorem dModel_count_16 : decode cModel_count 16 = .ok (.iload_n 3, 1) := by decide +kernel
theorem dModel_count_17 : decode cModel_count 17 = .ok (.baload, 1) := by decide +kernel
theorem dModel_count_18 : decode cModel_count 18 = .ok (.ifCond .eq 7, 3) := by decide +kernel
theorem dModel_count_21 : decode cModel_count 21 = .ok (.iload_n 2, 1) := by decide +kernel
theorem dModel_count_22 : decode cModel_count 22 = .ok (.goto 8, 3) := by decide +kernel
theorem dModel_count_25 : decode cModel_count 25 = .ok (.iload_n 2, 1) := by decide +kernel
theorem dModel_count_26 : decode cModel_count 26 = .ok (.iconst 1, 1) := by decide +kernel
theorem dModel_count_27 : decode cModel_count 27 = .ok (.iload_n 3, 1) := by decide +kernel
theorem dModel_count_28 : decode cModel_count 28 = .ok (.ishl, 1) := by decide +kernel
theorem dModel_count_29 : decode cModel_count 29 = .ok (.ior, 1) := by decide +kernel
theorem dModel_count_30 : decode cModel_count 30 = .ok (.istore_n 2, 1) := by decide +kernel
theorem dModel_count_31 : decode cModel_count 31 = .ok (.iinc 3  1, 3) := by decide +kernel
theorem dModel_count_34 : decode cModel_count 34 = .ok (.goto (-30), 3) := by decide +kernel
theorem dModel_count_37 : decode cModel_count 37 = .ok (.iload_n 1, 1) := by decide +kernel
theorem dModel_count_38 : decode cModel_count 38 = .ok (.ifCond .ne 15, 3) := by decide +kernel
theorem dModel_count_41 : decode cModel_count 41 = .ok (.aload_n 0, 1) := by decide +kernel
theorem dModel_count_42 : decode cModel_count 42 = .ok (.getfield 78, 3) := by decide +kernel
theorem dModel_count_45 : decode cModel_count 45 = .ok (.aload_n 0, 1) := by decide +kernel
theorem dModel_count_46 : decode cModel_count 46 = .ok (.invokevirtual 92, 3) := by decide +kernel
theorem dModel_count_49 : decode cModel_count 49 = .ok (.isub, 1) := by decide +kernel
theorem dModel_count_50 : decode cModel_count 50 = .ok (.goto 74, 3) := by decide +kernel
theorem dModel_count_53 : decode cModel_count 53 = .ok (.iload_n 1, 1) := by decide +kernel
theorem dModel_count_54 : decode cModel_count 54 = .ok (.iconst 1, 1) := by decide +kernel
theorem dModel_count_55 : decode cModel_count 55 = .ok (.if_icmp .ne 10, 3) := by decide +kernel
theorem dModel_count_58 : decode cModel_count 58 = .ok (.aload_n 0, 1) := by decide +kernel
theorem dModel_count_59 : decode cModel_count 59 = .ok (.getfield 71, 3) := by decide +kernel
theorem dModel_count_62 : decode cModel_count 62 = .ok (.goto 62, 3) := by decide +kernel
theorem dModel_count_65 : decode cModel_count 65 = .ok (.iload_n 1, 1) := by decide +kernel
theorem dModel_count_66 : decode cModel_count 66 = .ok (.iconst 2, 1) := by decide +kernel
theorem dModel_count_67 : decode cModel_count 67 = .ok (.if_icmp .ne 10, 3) := by decide +kernel
theorem dModel_count_70 : decode cModel_count 70 = .ok (.aload_n 0, 1) := by decide +kernel
theorem dModel_count_71 : decode cModel_count 71 = .ok (.getfield 75, 3) := by decide +kernel
theorem dModel_count_74 : decode cModel_count 74 = .ok (.goto 50, 3) := by decide +kernel
theorem dModel_count_77 : decode cModel_count 77 = .ok (.iload_n 1, 1) := by decide +kernel
theorem dModel_count_78 : decode cModel_count 78 = .ok (.iconst 3, 1) := by decide +kernel
theorem dModel_count_79 : decode cModel_count 79 = .ok (.if_icmp .ne 10, 3) := by decide +kernel
theorem dModel_count_82 : decode cModel_count 82 = .ok (.aload_n 0, 1) := by decide +kernel
theorem dModel_count_83 : decode cModel_count 83 = .ok (.getfield 78, 3) := by decide +kernel
theorem dModel_count_86 : decode cModel_count 86 = .ok (.goto 38, 3) := by decide +kernel
theorem dModel_count_89 : decode cModel_count 89 = .ok (.iload_n 1, 1) := by decide +kernel
theorem dModel_count_90 : decode cModel_count 90 = .ok (.iconst 4, 1) := by decide +kernel
theorem dModel_count_91 : decode cModel_count 91 = .ok (.if_icmp .ne 10, 3) := by decide +kernel
theorem dModel_count_94 : decode cModel_count 94 = .ok (.aload_n 0, 1) := by decide +kernel
theorem dModel_count_95 : decode cModel_count 95 = .ok (.getfield 130, 3) := by decide +kernel
theorem dModel_count_98 : decode cModel_count 98 = .ok (.goto 26, 3) := by decide +kernel
theorem dModel_count_101 : decode cModel_count 101 = .ok (.iload_n 1, 1) := by decide +kernel
theorem dModel_count_102 : decode cModel_count 102 = .ok (.iconst 5, 1) := by decide +kernel
theorem dModel_count_103 : decode cModel_count 103 = .ok (.if_icmp .ne 10, 3) := by decide +kernel
theorem dModel_count_106 : decode cModel_count 106 = .ok (.aload_n 0, 1) := by decide +kernel
theorem dModel_count_107 : decode cModel_count 107 = .ok (.getfield 133, 3) := by decide +kernel
theorem dModel_count_110 : decode cModel_count 110 = .ok (.goto 14, 3) := by decide +kernel
theorem dModel_count_113 : decode cModel_count 113 = .ok (.iload_n 1, 1) := by decide +kernel
theorem dModel_count_114 : decode cModel_count 114 = .ok (.bipush 6, 2) := by decide +kernel
theorem dModel_count_116 : decode cModel_count 116 = .ok (.if_icmp .ne 7, 3) := by decide +kernel
theorem dModel_count_119 : decode cModel_count 119 = .ok (.iload_n 2, 1) := by decide +kernel
theorem dModel_count_120 : decode cModel_count 120 = .ok (.goto 4, 3) := by decide +kernel
theorem dModel_count_123 : decode cModel_count 123 = .ok (.iconst (-1), 1) := by decide +kernel
theorem dModel_count_124 : decode cModel_count 124 = .ok (.ireturn, 1) := by decide +kernel
set_option maxRecDepth 100000 in
set_option maxHeartbeats 4000000 in
theorem m_count (l : Launch) (D : va_G) (cI cZ : ClassId) (qm : Nat → Nat) (n : Nat) (S : Nat) (P : Nat) (x : St) (wt : Int32) (hn1 : 1 ≤ n) (hn5 : n ≤ 5) (hS1 : 1 ≤ S) (hS4 : S ≤ 4) (hP5 : 5 ≤ P) (hP64 : P ≤ 64) : MI l D [(cI, .int), (cZ, .boolean)] yModel_count wsModel_count ({ frames := 1, cells := 0, slots := 0, locals := 22 }) [.ref (qm 0), .int wt] (wM qm cI cZ n S P x) (fun r w => r = aCount n S P x wt ∧ w = (wM qm cI cZ n S P x)) := by
  intro sz
  refine Met.ofW (cc := cModel_count) (maxL := 4) (ret := (Option.some .int)) (by decide) rfl ?_
  intro p e s m args below meth c s₁ B hml hv
  obtain ⟨rfl, hsz, hP, hK, hD0, hZ⟩ := hv
  have hx := B.exec
  have hb := B.bytes
  have hr := B.returns
  have hts := atoms_spec (ws := wsModel_count) B.pre
  have hown : s.vm.findClass RModel = some m.cls := findClass_of_methodNamed B.named
  have hlocks := B.notSynchronized
  subst hsz
  have hD := hD0.self (sz := s.heap.size)
  generalize hAe : va_A (wM qm cI cZ n S P x) s.heap.size = A at hD ⊢
  have hA : ∀ q : Nat, s.heap.size ≤ q → A q := fun q h => by rw [← hAe]; exact Or.inr h
  have hS : va_S A s.heap s.heap [] := va_S.rf
  have hP : va_P D vwCl (wM qm cI cZ n S P x) s.heap := hP
  have hl := lv_entry ([.ref (qm 0), .int wt]) (n := 4) (Nat.le_of_ble_eq_true rfl)
  rw [lg_entry_eq]
  generalize (lg_sl ([.ref (qm 0), .int wt]) ++ List.replicate (4 - (lg_sl ([.ref (qm 0), .int wt])).length) Slot.unset).toArray = ls at hl ⊢
  have hl : lv_has ls 4 [(0, .ref (qm 0)), (1, .int wt)] := hl
  refine lv_iconst (v := nI 0) hx hb dModel_count_0 (by decide) ?_
  refine lv_istore_n hx hb dModel_count_1 rfl hl (by decide) rfl (fun ls hl => ?_)
  have hl : lv_has ls 4 [(2, .int (nI 0)), (0, .ref (qm 0)), (1, .int wt)] := hl
  refine lv_iconst (v := nI 0) hx hb dModel_count_2 (by decide) ?_
  refine lv_istore_n hx hb dModel_count_3 rfl hl (by decide) rfl (fun ls hl => ?_)
  have hl : lv_has ls 4 [(3, .int (nI 0)), (2, .int (nI 0)), (0, .ref (qm 0)), (1, .int wt)] := hl
  have loop4 : ∀ (d4 i : Nat) (ls : Array Slot) (H : Heap) (locs : List Loc), i + d4 = n → lv_has ls 4 [(3, .int (nI i)), (2, .int (nI (msk (col (x.1 13) 0) i))), (0, .ref (qm 0)), (1, .int wt)] → va_P D vwCl (wM qm cI cZ n S P x) H → va_D A (wM qm cI cZ n S P x) → va_S A s.heap H locs → W p l e (headSpec wsModel_count { frames := 1, cells := 0, slots := 0, locals := 22 }).room s m [.ref (qm 0), .int wt].toArray below meth c H locs 0 0 (MQ below (va_Qi (fun r w => r = aCount n S P x wt ∧ w = (wM qm cI cZ n S P x)) (QW D [(cI, .int), (cZ, .boolean)] A) A) [.ref (qm 0), .int wt].toArray s 0 0 A) (F0 m 4 ls []) := by
    intro d4
    induction d4 with
    | zero =>
      intro i ls H locs hid4  hl hP hD hS
      refine lv_iload_n hx hb dModel_count_4 rfl (lv_at hl 0 rfl) ?_
      refine lv_aload_n hx hb dModel_count_5 rfl (lv_at hl 2 rfl) ?_
      refine va_get (D := D) (ci := 5) (v := .int (nI n)) (C := RModel) (T := TModel) (N := 25) hx hb hts (fun w h => mc (uModel_in w h)) hown hK hP 0 rfl rfl 0 (by decide) (hts _ (mc wd405)) (fun _ h9 => h9) rfl dModel_count_6 ?_
      refine lv_icmp_ge (tgt := 37) hx hb dModel_count_9 (by decide) (fun _ => ?_) (fun h9 => absurd (nI_le (by omega) (by omega)) h9)
      have hin : n = i := by omega
      subst hin
      refine lv_iload_n hx hb dModel_count_37 rfl (lv_at hl 3 rfl) ?_
      refine lv_if_ne (tgt := 53) hx hb dModel_count_38 (by decide) (fun c38 => ?_) (fun c38 => ?_)
      · refine lv_iload_n hx hb dModel_count_53 rfl (lv_at hl 3 rfl) ?_
        refine lv_iconst (v := nI 1) hx hb dModel_count_54 (by decide) ?_
        refine lv_icmp_ne (tgt := 65) hx hb dModel_count_55 (by decide) (fun c55 => ?_) (fun c55 => ?_)
        · refine lv_iload_n hx hb dModel_count_65 rfl (lv_at hl 3 rfl) ?_
          refine lv_iconst (v := nI 2) hx hb dModel_count_66 (by decide) ?_
          refine lv_icmp_ne (tgt := 77) hx hb dModel_count_67 (by decide) (fun c67 => ?_) (fun c67 => ?_)
          · refine lv_iload_n hx hb dModel_count_77 rfl (lv_at hl 3 rfl) ?_
            refine lv_iconst (v := nI 3) hx hb dModel_count_78 (by decide) ?_
            refine lv_icmp_ne (tgt := 89) hx hb dModel_count_79 (by decide) (fun c79 => ?_) (fun c79 => ?_)
            · refine lv_iload_n hx hb dModel_count_89 rfl (lv_at hl 3 rfl) ?_
              refine lv_iconst (v := nI 4) hx hb dModel_count_90 (by decide) ?_
              refine lv_icmp_ne (tgt := 101) hx hb dModel_count_91 (by decide) (fun c91 => ?_) (fun c91 => ?_)
              · refine lv_iload_n hx hb dModel_count_101 rfl (lv_at hl 3 rfl) ?_
                refine lv_iconst (v := nI 5) hx hb dModel_count_102 (by decide) ?_
                refine lv_icmp_ne (tgt := 113) hx hb dModel_count_103 (by decide) (fun c103 => ?_) (fun c103 => ?_)
                · refine lv_iload_n hx hb dModel_count_113 rfl (lv_at hl 3 rfl) ?_
                  refine lv_bipush (v := nI 6) hx hb dModel_count_114 (by decide) ?_
                  refine lv_icmp_ne (tgt := 123) hx hb dModel_count_116 (by decide) (fun c116 => ?_) (fun c116 => ?_)
                  · refine lv_iconst (v := (-1)) hx hb dModel_count_123 (by decide) ?_
                    exact W.iret (v := (-1)) hx hb hr (fun t9 ht9 hW9 => ⟨⟨(-1), (wM qm cI cZ n S P x), rfl, ⟨by unfold aCount; rw [if_neg (show ¬ wt = nI 0 from c38), if_neg (show ¬ wt = nI 1 from c55), if_neg (show ¬ wt = nI 2 from c67), if_neg (show ¬ wt = nI 3 from c79), if_neg (show ¬ wt = nI 4 from c91), if_neg (show ¬ wt = nI 5 from c103), if_neg (show ¬ wt = nI 6 from c116)], rfl⟩, by rw [ht9]; exact hP, va_K.moved hW9.alike hK, hD⟩, hS.F ht9⟩) hS.2.2 dModel_count_124
                  · refine lv_iload_n hx hb dModel_count_119 rfl (lv_at hl 1 rfl) ?_
                    refine lv_goto (tgt := 124) hx hb dModel_count_120 (by decide) ?_
                    exact W.iret (v := nI (msk (col (x.1 13) 0) n)) hx hb hr (fun t9 ht9 hW9 => ⟨⟨nI (msk (col (x.1 13) 0) n), (wM qm cI cZ n S P x), rfl, ⟨by unfold aCount; rw [if_neg (show ¬ wt = nI 0 from c38), if_neg (show ¬ wt = nI 1 from c55), if_neg (show ¬ wt = nI 2 from c67), if_neg (show ¬ wt = nI 3 from c79), if_neg (show ¬ wt = nI 4 from c91), if_neg (show ¬ wt = nI 5 from c103), if_pos (show wt = nI 6 from c116)], rfl⟩, by rw [ht9]; exact hP, va_K.moved hW9.alike hK, hD⟩, hS.F ht9⟩) hS.2.2 dModel_count_124
                · refine lv_aload_n hx hb dModel_count_106 rfl (lv_at hl 2 rfl) ?_
                  refine va_get (D := D) (ci := 5) (v := .int (x.1 12 0 1)) (C := RModel) (T := TModel) (N := 25) hx hb hts (fun w h => mc (uModel_in w h)) hown hK hP 0 rfl rfl 24 (by decide) (hts _ (mc wd429)) (fun _ h9 => h9) rfl dModel_count_107 ?_
                  refine lv_goto (tgt := 124) hx hb dModel_count_110 (by decide) ?_
                  exact W.iret (v := x.1 12 0 1) hx hb hr (fun t9 ht9 hW9 => ⟨⟨x.1 12 0 1, (wM qm cI cZ n S P x), rfl, ⟨by unfold aCount; rw [if_neg (show ¬ wt = nI 0 from c38), if_neg (show ¬ wt = nI 1 from c55), if_neg (show ¬ wt = nI 2 from c67), if_neg (show ¬ wt = nI 3 from c79), if_neg (show ¬ wt = nI 4 from c91), if_pos (show wt = nI 5 from c103)], rfl⟩, by rw [ht9]; exact hP, va_K.moved hW9.alike hK, hD⟩, hS.F ht9⟩) hS.2.2 dModel_count_124
              · refine lv_aload_n hx hb dModel_count_94 rfl (lv_at hl 2 rfl) ?_
                refine va_get (D := D) (ci := 5) (v := .int (x.1 12 0 0)) (C := RModel) (T := TModel) (N := 25) hx hb hts (fun w h => mc (uModel_in w h)) hown hK hP 0 rfl rfl 23 (by decide) (hts _ (mc wd428)) (fun _ h9 => h9) rfl dModel_count_95 ?_
                refine lv_goto (tgt := 124) hx hb dModel_count_98 (by decide) ?_
                exact W.iret (v := x.1 12 0 0) hx hb hr (fun t9 ht9 hW9 => ⟨⟨x.1 12 0 0, (wM qm cI cZ n S P x), rfl, ⟨by unfold aCount; rw [if_neg (show ¬ wt = nI 0 from c38), if_neg (show ¬ wt = nI 1 from c55), if_neg (show ¬ wt = nI 2 from c67), if_neg (show ¬ wt = nI 3 from c79), if_pos (show wt = nI 4 from c91)], rfl⟩, by rw [ht9]; exact hP, va_K.moved hW9.alike hK, hD⟩, hS.F ht9⟩) hS.2.2 dModel_count_124
            · refine lv_aload_n hx hb dModel_count_82 rfl (lv_at hl 2 rfl) ?_
              refine va_get (D := D) (ci := 5) (v := .int (nI P)) (C := RModel) (T := TModel) (N := 25) hx hb hts (fun w h => mc (uModel_in w h)) hown hK hP 0 rfl rfl 2 (by decide) (hts _ (mc wd407)) (fun _ h9 => h9) rfl dModel_count_83 ?_
              refine lv_goto (tgt := 124) hx hb dModel_count_86 (by decide) ?_
              exact W.iret (v := nI P) hx hb hr (fun t9 ht9 hW9 => ⟨⟨nI P, (wM qm cI cZ n S P x), rfl, ⟨by unfold aCount; rw [if_neg (show ¬ wt = nI 0 from c38), if_neg (show ¬ wt = nI 1 from c55), if_neg (show ¬ wt = nI 2 from c67), if_pos (show wt = nI 3 from c79)], rfl⟩, by rw [ht9]; exact hP, va_K.moved hW9.alike hK, hD⟩, hS.F ht9⟩) hS.2.2 dModel_count_124
          · refine lv_aload_n hx hb dModel_count_70 rfl (lv_at hl 2 rfl) ?_
            refine va_get (D := D) (ci := 5) (v := .int (nI S)) (C := RModel) (T := TModel) (N := 25) hx hb hts (fun w h => mc (uModel_in w h)) hown hK hP 0 rfl rfl 1 (by decide) (hts _ (mc wd406)) (fun _ h9 => h9) rfl dModel_count_71 ?_
            refine lv_goto (tgt := 124) hx hb dModel_count_74 (by decide) ?_
            exact W.iret (v := nI S) hx hb hr (fun t9 ht9 hW9 => ⟨⟨nI S, (wM qm cI cZ n S P x), rfl, ⟨by unfold aCount; rw [if_neg (show ¬ wt = nI 0 from c38), if_neg (show ¬ wt = nI 1 from c55), if_pos (show wt = nI 2 from c67)], rfl⟩, by rw [ht9]; exact hP, va_K.moved hW9.alike hK, hD⟩, hS.F ht9⟩) hS.2.2 dModel_count_124
        · refine lv_aload_n hx hb dModel_count_58 rfl (lv_at hl 2 rfl) ?_
          refine va_get (D := D) (ci := 5) (v := .int (nI n)) (C := RModel) (T := TModel) (N := 25) hx hb hts (fun w h => mc (uModel_in w h)) hown hK hP 0 rfl rfl 0 (by decide) (hts _ (mc wd405)) (fun _ h9 => h9) rfl dModel_count_59 ?_
          refine lv_goto (tgt := 124) hx hb dModel_count_62 (by decide) ?_
          exact W.iret (v := nI n) hx hb hr (fun t9 ht9 hW9 => ⟨⟨nI n, (wM qm cI cZ n S P x), rfl, ⟨by unfold aCount; rw [if_neg (show ¬ wt = nI 0 from c38), if_pos (show wt = nI 1 from c55)], rfl⟩, by rw [ht9]; exact hP, va_K.moved hW9.alike hK, hD⟩, hS.F ht9⟩) hS.2.2 dModel_count_124
      · refine lv_aload_n hx hb dModel_count_41 rfl (lv_at hl 2 rfl) ?_
        refine va_get (D := D) (ci := 5) (v := .int (nI P)) (C := RModel) (T := TModel) (N := 25) hx hb hts (fun w h => mc (uModel_in w h)) hown hK hP 0 rfl rfl 2 (by decide) (hts _ (mc wd407)) (fun _ h9 => h9) rfl dModel_count_42 ?_
        refine lv_aload_n hx hb dModel_count_45 rfl (lv_at hl 2 rfl) ?_
        have hPc := hP.sub (ws' := (wM qm cI cZ n S P x)) [0, 1, 2, 3, 4, 5, 6, 7, 8, 9, 10, 11, 12, 13, 14, 15, 16, 17, 18, 19, 20] rfl
        have hDc := hD.sub (ws' := (wM qm cI cZ n S P x)) [0, 1, 2, 3, 4, 5, 6, 7, 8, 9, 10, 11, 12, 13, 14, 15, 16, 17, 18, 19, 20] (by decide) rfl
        refine kx_i (va_runV (As := []) (rest := [.int (nI P)]) ⟨hx, hb, hml, hown, hts⟩ ((m_empty l D cI cZ qm n S P x (hn1) (hn5) (hS1) (hS4) (hP5) (hP64)) H.size) (cwV 0 hts (gV wd494 wd496 sl_Model_empty wd7 wd497) rfl rfl rfl (by decide +kernel) ⟨Nat.le_of_ble_eq_true rfl, Nat.le_of_ble_eq_true rfl⟩) ⟨fb_PW, va_recv (q0 := 0) (ci := 5) hK hPc rfl rfl, pre_PW hK hPc hDc hZ⟩ rfl rfl hl.1 rfl (lv_room (Nat.le_of_ble_eq_true rfl)) dModel_count_46 ⟨Nat.zero_le _, Nat.zero_le _⟩) hP hD hS hA [0, 1, 2, 3, 4, 5, 6, 7, 8, 9, 10, 11, 12, 13, 14, 15, 16, 17, 18, 19, 20] [] rfl rfl (by decide) (by decide) (fun r w1 H locs hw hP hD hS => ?_)
        obtain ⟨rfl, rfl⟩ := hw
        have hP : va_P D vwCl (wM qm cI cZ n S P x) H := hP
        have hD : va_D A (wM qm cI cZ n S P x) := hD
        refine lv_isub hx hb dModel_count_49 ?_
        refine lv_topi (nm_r ((pk_sub (by omega)).trans (congrArg nI (show P - (P - cntx P x) = cntx P x by have h7 : cntx P x ≤ P := cnt_le _ _; omega))) ?_)
        refine lv_goto (tgt := 124) hx hb dModel_count_50 (by decide) ?_
        exact W.iret (v := nI (cntx P x)) hx hb hr (fun t9 ht9 hW9 => ⟨⟨nI (cntx P x), (wM qm cI cZ n S P x), rfl, ⟨by unfold aCount; rw [if_pos (show wt = nI 0 from c38)], rfl⟩, by rw [ht9]; exact hP, va_K.moved hW9.alike hK, hD⟩, hS.F ht9⟩) hS.2.2 dModel_count_124
    | succ d4 ih4 =>
      intro i ls H locs hid4  hl hP hD hS
      refine lv_iload_n hx hb dModel_count_4 rfl (lv_at hl 0 rfl) ?_
      refine lv_aload_n hx hb dModel_count_5 rfl (lv_at hl 2 rfl) ?_
      refine va_get (D := D) (ci := 5) (v := .int (nI n)) (C := RModel) (T := TModel) (N := 25) hx hb hts (fun w h => mc (uModel_in w h)) hown hK hP 0 rfl rfl 0 (by decide) (hts _ (mc wd405)) (fun _ h9 => h9) rfl dModel_count_6 ?_
      refine lv_icmp_ge (tgt := 37) hx hb dModel_count_9 (by decide) (fun h9 => absurd h9 (nI_ge (by omega) (by omega))) (fun _ => ?_)
      refine lv_aload_n hx hb dModel_count_12 rfl (lv_at hl 2 rfl) ?_
      refine va_get (D := D) (ci := 5) (v := .ref (qm 1)) (C := RModel) (T := TModel) (N := 25) hx hb hts (fun w h => mc (uModel_in w h)) hown hK hP 0 rfl rfl 3 (by decide) (hts _ (mc wd408)) (fun _ h9 => h9) rfl dModel_count_13 ?_
      refine lv_iload_n hx hb dModel_count_16 rfl (lv_at hl 0 rfl) ?_
      refine ka_zld (v := x.1 13 i 0) hx hb hK hP 1 1 rfl rfl (by omega) (by omega) rfl dModel_count_17 ?_
      refine lv_if_eq (tgt := 25) hx hb dModel_count_18 (by decide) (fun c18 => ?_) (fun c18 => ?_)
      · refine lv_iload_n hx hb dModel_count_25 rfl (lv_at hl 1 rfl) ?_
        refine lv_iconst (v := nI 1) hx hb dModel_count_26 (by decide) ?_
        refine lv_iload_n hx hb dModel_count_27 rfl (lv_at hl 0 rfl) ?_
        refine lv_ishl hx hb dModel_count_28 ?_
        refine lv_ior hx hb dModel_count_29 ?_
        refine lv_topi (nm_r (show nI (msk (col (x.1 13) 0) i) ||| (nI 1 <<< (nI i &&& 31)) = nI (msk (col (x.1 13) 0) (i + 1)) from mk_t c18 (by omega)) ?_)
        refine lv_istore_n hx hb dModel_count_30 rfl hl (by decide) rfl (fun ls hl => ?_)
        have hl : lv_has ls 4 [(2, .int (nI (msk (col (x.1 13) 0) (i + 1)))), (3, .int (nI i)), (0, .ref (qm 0)), (1, .int wt)] := hl
        refine lv_iinc (k := 1) (v := nI (i + 1)) hx hb dModel_count_31 hl rfl ((nI_succ _).symm) (by decide) rfl (fun ls hl => ?_)
        have hl : lv_has ls 4 [(3, .int (nI (i + 1))), (2, .int (nI (msk (col (x.1 13) 0) (i + 1)))), (0, .ref (qm 0)), (1, .int wt)] := hl
        refine lv_goto (tgt := 4) hx hb dModel_count_34 (by decide) ?_
        exact ih4 (i + 1) ls H locs (by omega) hl hP hD hS
      · refine lv_iload_n hx hb dModel_count_21 rfl (lv_at hl 1 rfl) ?_
        refine lv_goto (tgt := 30) hx hb dModel_count_22 (by decide) ?_
        refine lv_topi (nm_r (show nI (msk (col (x.1 13) 0) i) = nI (msk (col (x.1 13) 0) (i + 1)) from mk_f c18) ?_)
        refine lv_istore_n hx hb dModel_count_30 rfl hl (by decide) rfl (fun ls hl => ?_)
        have hl : lv_has ls 4 [(2, .int (nI (msk (col (x.1 13) 0) (i + 1)))), (3, .int (nI i)), (0, .ref (qm 0)), (1, .int wt)] := hl
        refine lv_iinc (k := 1) (v := nI (i + 1)) hx hb dModel_count_31 hl rfl ((nI_succ _).symm) (by decide) rfl (fun ls hl => ?_)
        have hl : lv_has ls 4 [(3, .int (nI (i + 1))), (2, .int (nI (msk (col (x.1 13) 0) (i + 1)))), (0, .ref (qm 0)), (1, .int wt)] := hl
        refine lv_goto (tgt := 4) hx hb dModel_count_34 (by decide) ?_
        exact ih4 (i + 1) ls H locs (by omega) hl hP hD hS
  exact loop4 n 0 ls s.heap [] (by omega) hl hP hD hS
