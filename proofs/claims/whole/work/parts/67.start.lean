set_option maxRecDepth 100000 in
set_option maxHeartbeats 4000000 in
/-- YOUR PART: from the entry, for every script of at most 2563 ints, the law comes to its end with true -/
theorem whole_start {p : Program} {e : Env} {s : State} {m : MethodId} {below : List Frame} {meth : Method} {c : Code} (l : Launch) {b L : Nat} {xs : Nat → Int32} (hL : L ≤ 2563) (C0 : lw_At p s m meth c b L xs) : W p l e room_1 s m #[Value.ref b] below meth c s.heap [] 0 0 (lw_Z below #[Value.ref b] s) (entryFrame m ([Value.ref b] : List Value).toArray 4) := by
  obtain ⟨hx, hb, hr, hml, hown0, hts0, hX, hbl, hlk, hgv⟩ := C0
  have hown : s.vm.findClass "DecreePoolLaw" = some m.cls := hown0
  have hts := law_hts hts0
  have hZ : NZ s := ⟨va_Nw.of rfl (hts0 nz1 (List.mem_append_right _ (List.mem_of_getElem? (i := 193) (by decide +kernel)))), va_Nw.of rfl (hts0 nz2 (List.mem_append_right _ (List.mem_of_getElem? (i := 217) (by decide +kernel)))), va_Nw.of rfl (hts0 nz3 (List.mem_append_right _ (List.mem_of_getElem? (i := 273) (by decide +kernel)))), va_Nw.of rfl (hts0 nz4 (List.mem_append_right _ (List.mem_of_getElem? (i := 375) (by decide +kernel))))⟩
  obtain ⟨cc0, ci0, ck0⟩ := u_known (C := RDecreePool) (T := TDecreePool) (N := 9) (n := 9) hts (fun w h => mc (uDecreePool_in w h)) (hts _ (mc wd10))
  obtain ⟨cc1, ci1, ck1⟩ := u_known (C := RPool) (T := TPool) (N := 3) (n := 3) hts (fun w h => mc (uPool_in w h)) (hts _ (mc wd21))
  obtain ⟨cc2, ci2, ck2⟩ := u_known (C := RProposers) (T := TProposers) (N := 6) (n := 6) hts (fun w h => mc (uProposers_in w h)) (hts _ (mc wd38))
  obtain ⟨cc3, ci3, ck3⟩ := u_known (C := RAcceptors) (T := TAcceptors) (N := 5) (n := 5) hts (fun w h => mc (uAcceptors_in w h)) (hts _ (mc wd66))
  obtain ⟨cc4, ci4, ck4⟩ := u_known (C := RLearners) (T := TLearners) (N := 3) (n := 3) hts (fun w h => mc (uLearners_in w h)) (hts _ (mc wd89))
  obtain ⟨cc5, ci5, ck5⟩ := u_known (C := RModel) (T := TModel) (N := 25) (n := 25) hts (fun w h => mc (uModel_in w h)) (hts _ (mc wd400))
  obtain ⟨cI, hI1, hI2⟩ := law_arr (hts _ (mc wd36))
  obtain ⟨cZ, hZ1, hZ2⟩ := law_arr (hts _ (mc wd481))
  obtain ⟨D, hK⟩ : ∃ D : va_G, va_K D vwCl [(cI, .int), (cZ, .boolean)] s := by
    refine ⟨(fun k => if k = 0 then cc0 else if k = 1 then cc1 else if k = 2 then cc2 else if k = 3 then cc3 else if k = 4 then cc4 else cc5, fun k => if k = 0 then ci0 else if k = 1 then ci1 else if k = 2 then ci2 else if k = 3 then ci3 else if k = 4 then ci4 else ci5), fun k q hq => ?_, fun k q hk => ?_⟩
    · match k, hq with
      | 0, hq => cases hq; exact ck0
      | 1, hq => cases hq; exact ck1
      | 2, hq => cases hq; exact ck2
      | 3, hq => cases hq; exact ck3
      | 4, hq => cases hq; exact ck4
      | 5, hq => cases hq; exact ck5
      | k + 6, hq => simp [vwCl] at hq
    · match k, hk with
      | 0, hk => cases hk; exact ⟨hI1, hI2⟩
      | 1, hk => cases hk; exact ⟨hZ1, hZ2⟩
      | k + 2, hk => simp at hk
  obtain ⟨A, hAe⟩ : ∃ A : Nat → Prop, A = fun z => s.heap.size ≤ z := ⟨_, rfl⟩
  have hA : ∀ z : Nat, s.heap.size ≤ z → A z := fun z h => by rw [hAe]; exact h
  have hbA : ¬ A b := by rw [hAe]; exact Nat.not_le.mpr hbl
  have hS : va_S A s.heap s.heap [] := va_S.rf
  have hP : va_P D vwCl [] s.heap := fun k q h => by simp at h
  have hD : va_D A [] := ⟨fun i j p q h => by simp at h, fun k q h => by simp at h⟩
  have hl := lv_entry ([.ref b]) (n := 4) (Nat.le_of_ble_eq_true rfl)
  rw [lg_entry_eq]
  generalize (lg_sl ([.ref b]) ++ List.replicate (4 - (lg_sl ([.ref b])).length) Slot.unset).toArray = ls at hl ⊢
  have hl : lv_has ls 4 [(0, .ref b)] := hl
  refine va_new (ci := 0) (fs := [.int 0, .int 0, .null, .null, .null, .null, .int 0, .int 0, .int 0]) (C := RDecreePool) (T := TDecreePool) (N := 9) hx hb hts (fun w h => mc (uDecreePool_in w h)) tyDecreePool tyDecreePool_ok hown (hts _ (mc wd9)) (hts _ (mc wd10)) (hts _ (mc wd1)) hK hP hD hS hA rfl (fun j hj => by rcases (show j = 0 ∨ j = 1 ∨ j = 2 ∨ j = 3 ∨ j = 4 ∨ j = 5 ∨ j = 6 ∨ j = 7 ∨ j = 8 by omega) with rfl | rfl | rfl | rfl | rfl | rfl | rfl | rfl | rfl <;> rfl) (show 0 + 1 ≤ 600000 by decide) (show 0 + 9 ≤ 7302250 by decide) dLaw_law_0 (fun q0 H hP hD hS => ?_)
  refine W.widen (k := 1) (n := 9) (by decide) (by decide) ?_
  have hP : va_P D vwCl ([(q0, .inr (0, [.int 0, .int 0, .null, .null, .null, .null, .int 0, .int 0, .int 0]))]) H := hP
  have hD : va_D A ([(q0, .inr (0, [.int 0, .int 0, .null, .null, .null, .null, .int 0, .int 0, .int 0]))]) := hD
  refine lv_dup hx hb dLaw_law_3 rfl ?_
  refine lv_aload_n hx hb dLaw_law_4 rfl (lv_at hl 0 rfl) ?_
  refine lv_iconst (v := nI 0) hx hb dLaw_law_5 (by decide) ?_
  refine kx_s (va_runS (As := [.ref b, .int (nI 0)]) (rest := [.ref q0, .ref q0]) ⟨hx, hb, hml, hown, hts⟩ (c_cell l b L xs 0 hL (by decide) H.size) (va_cwS 2 hts (gS wd396 wd397 wd0 wd398) rfl rfl rfl (by decide +kernel) ⟨Nat.le_of_ble_eq_true rfl, Nat.le_of_ble_eq_true rfl⟩) ⟨fb_PC, fun U hU hW => ⟨rfl, by rw [hU], by rw [hU]; exact va_X.moved hW.alike (hX.kept (hS.2.1 b hbl hbA)), Nat.lt_of_lt_of_le hbl hS.1⟩⟩ rfl rfl hl.1 rfl (lv_room (Nat.le_of_ble_eq_true rfl)) dLaw_law_6 ⟨Nat.le_of_ble_eq_true rfl, Nat.le_of_ble_eq_true rfl⟩) hP hD hS hA (fun r H locs hw hP hS => ?_)
  obtain rfl := hw
  refine lv_aload_n hx hb dLaw_law_9 rfl (lv_at hl 0 rfl) ?_
  refine lv_iconst (v := nI 1) hx hb dLaw_law_10 (by decide) ?_
  refine kx_s (va_runS (As := [.ref b, .int (nI 1)]) (rest := [.int (cellv xs L 0), .ref q0, .ref q0]) ⟨hx, hb, hml, hown, hts⟩ (c_cell l b L xs 1 hL (by decide) H.size) (va_cwS 2 hts (gS wd396 wd397 wd0 wd398) rfl rfl rfl (by decide +kernel) ⟨Nat.le_of_ble_eq_true rfl, Nat.le_of_ble_eq_true rfl⟩) ⟨fb_PC, fun U hU hW => ⟨rfl, by rw [hU], by rw [hU]; exact va_X.moved hW.alike (hX.kept (hS.2.1 b hbl hbA)), Nat.lt_of_lt_of_le hbl hS.1⟩⟩ rfl rfl hl.1 rfl (lv_room (Nat.le_of_ble_eq_true rfl)) dLaw_law_11 ⟨Nat.le_of_ble_eq_true rfl, Nat.le_of_ble_eq_true rfl⟩) hP hD hS hA (fun r H locs hw hP hS => ?_)
  obtain rfl := hw
  refine lv_aload_n hx hb dLaw_law_14 rfl (lv_at hl 0 rfl) ?_
  refine lv_iconst (v := nI 2) hx hb dLaw_law_15 (by decide) ?_
  refine kx_s (va_runS (As := [.ref b, .int (nI 2)]) (rest := [.int (cellv xs L 1), .int (cellv xs L 0), .ref q0, .ref q0]) ⟨hx, hb, hml, hown, hts⟩ (c_cell l b L xs 2 hL (by decide) H.size) (va_cwS 2 hts (gS wd396 wd397 wd0 wd398) rfl rfl rfl (by decide +kernel) ⟨Nat.le_of_ble_eq_true rfl, Nat.le_of_ble_eq_true rfl⟩) ⟨fb_PC, fun U hU hW => ⟨rfl, by rw [hU], by rw [hU]; exact va_X.moved hW.alike (hX.kept (hS.2.1 b hbl hbA)), Nat.lt_of_lt_of_le hbl hS.1⟩⟩ rfl rfl hl.1 rfl (lv_room (Nat.le_of_ble_eq_true rfl)) dLaw_law_16 ⟨Nat.le_of_ble_eq_true rfl, Nat.le_of_ble_eq_true rfl⟩) hP hD hS hA (fun r H locs hw hP hS => ?_)
  obtain rfl := hw
  have hPc := hP
  have hDc := hD
  refine kx_c (va_runI (As := [.int (cellv xs L 0), .int (cellv xs L 1), .int (cellv xs L 2)]) (rest := [.ref q0]) ⟨hx, hb, hml, hown, hts⟩ ((c_DecreePool_new l D cI cZ q0 (cellv xs L 0) (cellv xs L 1) (cellv xs L 2)) H.size) (cwI 3 hts (gC wd13) rfl rfl rfl (hts _ (mc wd1)) (hts _ (mc wd11)) (hts _ (mc wd12)) rfl (by decide +kernel) ⟨Nat.le_of_ble_eq_true rfl, Nat.le_of_ble_eq_true rfl⟩) ⟨fb_PW, pre_PW hK hPc hDc hZ⟩ rfl rfl hl.1 rfl (lv_room (Nat.le_of_ble_eq_true rfl)) dLaw_law_19 ⟨Nat.le_of_ble_eq_true rfl, Nat.le_of_ble_eq_true rfl⟩) hP hD hS hA [0] [] rfl rfl (by decide) (by decide) (fun w1 H locs hw hP hD hS => ?_)
  obtain ⟨q, hq, rfl⟩ := hw
  subst hq
  have hP : va_P D vwCl (wX q cI (dN (cellv xs L 0)) (dS (cellv xs L 1)) (dP (cellv xs L 2)) x0) H := hP
  have hD : va_D A (wX q cI (dN (cellv xs L 0)) (dS (cellv xs L 1)) (dP (cellv xs L 2)) x0) := hD
  refine lv_astore_n hx hb dLaw_law_22 rfl hl (by decide) rfl (fun ls hl => ?_)
  have hl : lv_has ls 4 [(1, .ref (q 0)), (0, .ref b)] := hl
  refine va_new (ci := 5) (fs := [.int 0, .int 0, .int 0, .null, .null, .null, .null, .null, .null, .null, .null, .null, .null, .null, .null, .null, .null, .null, .null, .null, .null, .null, .null, .int 0, .int 0]) (C := RModel) (T := TModel) (N := 25) hx hb hts (fun w h => mc (uModel_in w h)) tyModel tyModel_ok hown (hts _ (mc wd399)) (hts _ (mc wd400)) (hts _ (mc wd7)) hK hP hD hS hA rfl (fun j hj => by rcases (show j = 0 ∨ j = 1 ∨ j = 2 ∨ j = 3 ∨ j = 4 ∨ j = 5 ∨ j = 6 ∨ j = 7 ∨ j = 8 ∨ j = 9 ∨ j = 10 ∨ j = 11 ∨ j = 12 ∨ j = 13 ∨ j = 14 ∨ j = 15 ∨ j = 16 ∨ j = 17 ∨ j = 18 ∨ j = 19 ∨ j = 20 ∨ j = 21 ∨ j = 22 ∨ j = 23 ∨ j = 24 by omega) with rfl | rfl | rfl | rfl | rfl | rfl | rfl | rfl | rfl | rfl | rfl | rfl | rfl | rfl | rfl | rfl | rfl | rfl | rfl | rfl | rfl | rfl | rfl | rfl | rfl <;> rfl) (show 16 + 1 ≤ 600000 by decide) (show 754 + 25 ≤ 7302250 by decide) dLaw_law_23 (fun q23 H hP hD hS => ?_)
  refine W.widen (k := 17) (n := 779) (by decide) (by decide) ?_
  have hP : va_P D vwCl (wX q cI (dN (cellv xs L 0)) (dS (cellv xs L 1)) (dP (cellv xs L 2)) x0 ++ [(q23, .inr (5, [.int 0, .int 0, .int 0, .null, .null, .null, .null, .null, .null, .null, .null, .null, .null, .null, .null, .null, .null, .null, .null, .null, .null, .null, .null, .int 0, .int 0]))]) H := hP
  have hD : va_D A (wX q cI (dN (cellv xs L 0)) (dS (cellv xs L 1)) (dP (cellv xs L 2)) x0 ++ [(q23, .inr (5, [.int 0, .int 0, .int 0, .null, .null, .null, .null, .null, .null, .null, .null, .null, .null, .null, .null, .null, .null, .null, .null, .null, .null, .null, .null, .int 0, .int 0]))]) := hD
  refine lv_dup hx hb dLaw_law_26 rfl ?_
  refine lv_aload_n hx hb dLaw_law_27 rfl (lv_at hl 1 rfl) ?_
  refine lv_iconst (v := nI 0) hx hb dLaw_law_28 (by decide) ?_
  refine kx_s (va_runS (As := [.ref b, .int (nI 0)]) (rest := [.ref q23, .ref q23]) ⟨hx, hb, hml, hown, hts⟩ (c_cell l b L xs 0 hL (by decide) H.size) (va_cwS 2 hts (gS wd396 wd397 wd0 wd398) rfl rfl rfl (by decide +kernel) ⟨Nat.le_of_ble_eq_true rfl, Nat.le_of_ble_eq_true rfl⟩) ⟨fb_PC, fun U hU hW => ⟨rfl, by rw [hU], by rw [hU]; exact va_X.moved hW.alike (hX.kept (hS.2.1 b hbl hbA)), Nat.lt_of_lt_of_le hbl hS.1⟩⟩ rfl rfl hl.1 rfl (lv_room (Nat.le_of_ble_eq_true rfl)) dLaw_law_29 ⟨Nat.le_of_ble_eq_true rfl, Nat.le_of_ble_eq_true rfl⟩) hP hD hS hA (fun r H locs hw hP hS => ?_)
  obtain rfl := hw
  refine lv_aload_n hx hb dLaw_law_32 rfl (lv_at hl 1 rfl) ?_
  refine lv_iconst (v := nI 1) hx hb dLaw_law_33 (by decide) ?_
  refine kx_s (va_runS (As := [.ref b, .int (nI 1)]) (rest := [.int (cellv xs L 0), .ref q23, .ref q23]) ⟨hx, hb, hml, hown, hts⟩ (c_cell l b L xs 1 hL (by decide) H.size) (va_cwS 2 hts (gS wd396 wd397 wd0 wd398) rfl rfl rfl (by decide +kernel) ⟨Nat.le_of_ble_eq_true rfl, Nat.le_of_ble_eq_true rfl⟩) ⟨fb_PC, fun U hU hW => ⟨rfl, by rw [hU], by rw [hU]; exact va_X.moved hW.alike (hX.kept (hS.2.1 b hbl hbA)), Nat.lt_of_lt_of_le hbl hS.1⟩⟩ rfl rfl hl.1 rfl (lv_room (Nat.le_of_ble_eq_true rfl)) dLaw_law_34 ⟨Nat.le_of_ble_eq_true rfl, Nat.le_of_ble_eq_true rfl⟩) hP hD hS hA (fun r H locs hw hP hS => ?_)
  obtain rfl := hw
  refine lv_aload_n hx hb dLaw_law_37 rfl (lv_at hl 1 rfl) ?_
  refine lv_iconst (v := nI 2) hx hb dLaw_law_38 (by decide) ?_
  refine kx_s (va_runS (As := [.ref b, .int (nI 2)]) (rest := [.int (cellv xs L 1), .int (cellv xs L 0), .ref q23, .ref q23]) ⟨hx, hb, hml, hown, hts⟩ (c_cell l b L xs 2 hL (by decide) H.size) (va_cwS 2 hts (gS wd396 wd397 wd0 wd398) rfl rfl rfl (by decide +kernel) ⟨Nat.le_of_ble_eq_true rfl, Nat.le_of_ble_eq_true rfl⟩) ⟨fb_PC, fun U hU hW => ⟨rfl, by rw [hU], by rw [hU]; exact va_X.moved hW.alike (hX.kept (hS.2.1 b hbl hbA)), Nat.lt_of_lt_of_le hbl hS.1⟩⟩ rfl rfl hl.1 rfl (lv_room (Nat.le_of_ble_eq_true rfl)) dLaw_law_39 ⟨Nat.le_of_ble_eq_true rfl, Nat.le_of_ble_eq_true rfl⟩) hP hD hS hA (fun r H locs hw hP hS => ?_)
  obtain rfl := hw
  have hPc := (blk_P hP).2
  have hDc := (blk_D hD).2.1
  refine kx_cR (va_runI (As := [.int (cellv xs L 0), .int (cellv xs L 1), .int (cellv xs L 2)]) (rest := [.ref q23]) ⟨hx, hb, hml, hown, hts⟩ ((c_Model_new l D cI cZ q23 (cellv xs L 0) (cellv xs L 1) (cellv xs L 2)) H.size) (cwI 3 hts (gC wd403) rfl rfl rfl (hts _ (mc wd7)) (hts _ (mc wd401)) (hts _ (mc wd402)) rfl (by decide +kernel) ⟨Nat.le_of_ble_eq_true rfl, Nat.le_of_ble_eq_true rfl⟩) ⟨fb_PW, pre_PW hK hPc hDc hZ⟩ rfl rfl hl.1 rfl (lv_room (Nat.le_of_ble_eq_true rfl)) dLaw_law_42 ⟨Nat.le_of_ble_eq_true rfl, Nat.le_of_ble_eq_true rfl⟩) hP hD hS hA (fun w1 H locs hw hP hD hS => ?_)
  obtain ⟨qm, hq, rfl⟩ := hw
  have hP2 : va_P D vwCl (wX q cI (dN (cellv xs L 0)) (dS (cellv xs L 1)) (dP (cellv xs L 2)) x0 ++ wM qm cI cZ (dN (cellv xs L 0)) (dS (cellv xs L 1)) (dP (cellv xs L 2)) x0) H := hP
  have hD2 : va_D A (wX q cI (dN (cellv xs L 0)) (dS (cellv xs L 1)) (dP (cellv xs L 2)) x0 ++ wM qm cI cZ (dN (cellv xs L 0)) (dS (cellv xs L 1)) (dP (cellv xs L 2)) x0) := hD
  subst hq
  have hP := hP2
  have hD := hD2
  refine lv_astore_n hx hb dLaw_law_45 rfl hl (by decide) rfl (fun ls hl => ?_)
  have hl : lv_has ls 4 [(2, .ref (qm 0)), (1, .ref (q 0)), (0, .ref b)] := hl
  refine lv_iconst (v := nI 3) hx hb dLaw_law_46 (by decide) ?_
  refine lv_istore_n hx hb dLaw_law_47 rfl hl (by decide) rfl (fun ls hl => ?_)
  have hl : lv_has ls 4 [(3, .int (nI 3)), (2, .ref (qm 0)), (1, .ref (q 0)), (0, .ref b)] := hl
  exact law_loop l hL hx hb hml hown hts hX hbl D cI cZ hK hZ q qm (dN (cellv xs L 0)) (dS (cellv xs L 1)) (dP (cellv xs L 2)) (dN_r _).1 (dN_r _).2 (dS_r _).1 (dS_r _).2 (dP_r _).1 (dP_r _).2 A hA hbA hr hlk hAe (L + 1) 3 x0 ls H locs (by omega) (by decide) Inv_0 hl hP hD hS
