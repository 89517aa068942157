theorem dDecreePool_sweep_0 : decode cDecreePool_sweep 0 = .ok (.iload_n 1, 1) := by decide +kernel
theorem dDecreePool_sweep_1 : decode cDecreePool_sweep 1 = .ok (.iconst 0, 1) := by decide +kernel
theorem dDecreePool_sweep_2 : decode cDecreePool_sweep 2 = .ok (.bipush 100, 2) := by decide +kernel
theorem dDecreePool_sweep_4 : decode cDecreePool_sweep 4 = .ok (.invokestatic 7, 3) := by decide +kernel
theorem dDecreePool_sweep_7 : decode cDecreePool_sweep 7 = .ok (.ifCond .ne 5, 3) := by decide +kernel
theorem dDecreePool_sweep_10 : decode cDecreePool_sweep 10 = .ok (.iconst (-1), 1) := by decide +kernel
theorem dDecreePool_sweep_11 : decode cDecreePool_sweep 11 = .ok (.ireturn, 1) := by decide +kernel
theorem dDecreePool_sweep_12 : decode cDecreePool_sweep 12 = .ok (.iconst 0, 1) := by decide +kernel
theorem dDecreePool_sweep_13 : decode cDecreePool_sweep 13 = .ok (.istore_n 2, 1) := by decide +kernel
theorem dDecreePool_sweep_14 : decode cDecreePool_sweep 14 = .ok (.iload_n 2, 1) := by decide +kernel
theorem dDecreePool_sweep_15 : decode cDecreePool_sweep 15 = .ok (.iload_n 1, 1) := by decide +kernel
theorem dDecreePool_sweep_16 : decode cDecreePool_sweep 16 = .ok (.if_icmp .ge 28, 3) := by decide +kernel
theorem dDecreePool_sweep_19 : decode cDecreePool_sweep 19 = .ok (.aload_n 0, 1) := by decide +kernel
theorem dDecreePool_sweep_20 : decode cDecreePool_sweep 20 = .ok (.invokevirtual 98, 3) := by decide +kernel
theorem dDecreePool_sweep_23 : decode cDecreePool_sweep 23 = .ok (.istore_n 3, 1) := by decide +kernel
theorem dDecreePool_sweep_24 : decode cDecreePool_sweep 24 = .ok (.iload_n 3, 1) := by decide +kernel
theorem dDecreePool_sweep_25 : decode cDecreePool_sweep 25 = .ok (.iconst (-1), 1) := by decide +kernel
theorem dDecreePool_sweep_26 : decode cDecreePool_sweep 26 = .ok (.if_icmp .ne 6, 3) := by decide +kernel
theorem dDecreePool_sweep_29 : decode cDecreePool_sweep 29 = .ok (.goto 15, 3) := by decide +kernel
theorem dDecreePool_sweep_32 : decode cDecreePool_sweep 32 = .ok (.aload_n 0, 1) := by decide +kernel
theorem dDecreePool_sweep_33 : decode cDecreePool_sweep 33 = .ok (.iload_n 3, 1) := by decide +kernel
theorem dDecreePool_sweep_34 : decode cDecreePool_sweep 34 = .ok (.invokevirtual 95, 3) := by decide +kernel
theorem dDecreePool_sweep_37 : decode cDecreePool_sweep 37 = .ok (.pop, 1) := by decide +kernel
theorem dDecreePool_sweep_38 : decode cDecreePool_sweep 38 = .ok (.iinc 2  1, 3) := by decide +kernel
theorem dDecreePool_sweep_41 : decode cDecreePool_sweep 41 = .ok (.goto (-27), 3) := by decide +kernel
theorem dDecreePool_sweep_44 : decode cDecreePool_sweep 44 = .ok (.iload_n 2, 1) := by decide +kernel
theorem dDecreePool_sweep_45 : decode cDecreePool_sweep 45 = .ok (.ireturn, 1) := by decide +kernel
set_option maxRecDepth 100000 in
set_option maxHeartbeats 4000000 in
theorem c_sweep (l : Launch) (D : va_G) (cI cZ : ClassId) (q : Nat → Nat) (n : Nat) (S : Nat) (P : Nat) (x : St) (v : Int32) (hn1 : 1 ≤ n) (hn5 : n ≤ 5) (hS1 : 1 ≤ S) (hS4 : S ≤ 4) (hP5 : 5 ≤ P) (hP64 : P ≤ 64) (hIn : Inv n S x) : MI l D [(cI, .int), (cZ, .boolean)] yDecreePool_sweep wsDecreePool_sweep ({ frames := 5, cells := 0, slots := 0, locals := 127 }) [.ref (q 0), .int v] (wX q cI n S P x) (fun r w => r = (sSweep n P x v).1 ∧ w = (wX q cI n S P (sSweep n P x v).2)) := by
  intro sz
  refine Met.ofW (cc := cDecreePool_sweep) (maxL := 4) (ret := (Option.some .int)) (by decide) rfl ?_
  intro p e s m args below meth c s₁ B hml hv
  obtain ⟨rfl, hsz, hP, hK, hD0, hZ⟩ := hv
  have hx := B.exec
  have hb := B.bytes
  have hr := B.returns
  have hts := atoms_spec (ws := wsDecreePool_sweep) B.pre
  have hown : s.vm.findClass RDecreePool = some m.cls := findClass_of_methodNamed B.named
  have hlocks := B.notSynchronized
  subst hsz
  have hD := hD0.self (sz := s.heap.size)
  generalize hAe : va_A (wX q cI n S P x) s.heap.size = A at hD ⊢
  have hA : ∀ q : Nat, s.heap.size ≤ q → A q := fun q h => by rw [← hAe]; exact Or.inr h
  have hS : va_S A s.heap s.heap [] := va_S.rf
  have hP : va_P D vwCl (wX q cI n S P x) s.heap := hP
  have hl := lv_entry ([.ref (q 0), .int v]) (n := 4) (Nat.le_of_ble_eq_true rfl)
  rw [lg_entry_eq]
  generalize (lg_sl ([.ref (q 0), .int v]) ++ List.replicate (4 - (lg_sl ([.ref (q 0), .int v])).length) Slot.unset).toArray = ls at hl ⊢
  have hl : lv_has ls 4 [(0, .ref (q 0)), (1, .int v)] := hl
  refine lv_iload_n hx hb dDecreePool_sweep_0 rfl (lv_at hl 1 rfl) ?_
  refine lv_iconst (v := nI 0) hx hb dDecreePool_sweep_1 (by decide) ?_
  refine lv_bipush (v := nI 100) hx hb dDecreePool_sweep_2 (by decide) ?_
  have hPc := hP.sub (ws' := ([] : va_W)) [] rfl
  have hDc := hD.sub (ws' := ([] : va_W)) [] (by decide) rfl
  refine kx_i (va_runS (As := [.int v, .int (nI 0), .int (nI 100)]) (rest := []) ⟨hx, hb, hml, hown, hts⟩ ((c_isWithin l D cI cZ v (nI 0) (nI 100)) s.heap.size) (va_cwS 3 hts (gS wd17 wd18 wd1 wd19) rfl rfl rfl (by decide +kernel) ⟨Nat.le_of_ble_eq_true rfl, Nat.le_of_ble_eq_true rfl⟩) ⟨fb_PW, pre_PW hK hPc hDc hZ⟩ rfl rfl hl.1 rfl (lv_room (Nat.le_of_ble_eq_true rfl)) dDecreePool_sweep_4 ⟨Nat.zero_le _, Nat.zero_le _⟩) hP hD hS hA [] [0, 1, 2, 3, 4, 5, 6, 7, 8, 9, 10, 11, 12, 13, 14, 15] rfl rfl (by decide) (by decide) (fun r w1 H locs hw hP hD hS => ?_)
  rcases hw with ⟨rfl, h4, rfl⟩ | ⟨rfl, h4, rfl⟩
  · have hP : va_P D vwCl (wX q cI n S P x) H := hP
    have hD : va_D A (wX q cI n S P x) := hD
    obtain ⟨kk, hkk, rfl⟩ := wi_of (P := 101) (by decide) (by decide) h4
    refine lv_if_ne (tgt := 12) hx hb dDecreePool_sweep_7 (by decide) (fun _ => ?_) (fun h9 => absurd h9 (by decide))
    refine lv_iconst (v := nI 0) hx hb dDecreePool_sweep_12 (by decide) ?_
    refine lv_istore_n hx hb dDecreePool_sweep_13 rfl hl (by decide) rfl (fun ls hl => ?_)
    have hl : lv_has ls 4 [(2, .int (nI 0)), (0, .ref (q 0)), (1, .int (nI kk))] := hl
    have loop14 : ∀ (d14 i : Nat) (y : St) (ls : Array Slot) (H : Heap) (locs : List Loc), i + d14 = kk → Inv n S y → i + (sSw n P d14 y).1 = (sSw n P kk x).1 ∧ (sSw n P d14 y).2 = (sSw n P kk x).2 → lv_has ls 4 [(2, .int (nI i)), (0, .ref (q 0)), (1, .int (nI kk))] → va_P D vwCl (wX q cI n S P y) H → va_D A (wX q cI n S P y) → va_S A s.heap H locs → W p l e (headSpec wsDecreePool_sweep { frames := 5, cells := 0, slots := 0, locals := 127 }).room s m [.ref (q 0), .int (nI kk)].toArray below meth c H locs 0 0 (MQ below (va_Qi (fun r w => r = (sSweep n P x (nI kk)).1 ∧ w = (wX q cI n S P (sSweep n P x (nI kk)).2)) (QW D [(cI, .int), (cZ, .boolean)] A) A) [.ref (q 0), .int (nI kk)].toArray s 0 0 A) (F0 m 14 ls []) := by
      intro d14
      induction d14 with
      | zero =>
        intro i y ls H locs hid14 hInv hR hl hP hD hS
        refine lv_iload_n hx hb dDecreePool_sweep_14 rfl (lv_at hl 0 rfl) ?_
        refine lv_iload_n hx hb dDecreePool_sweep_15 rfl (lv_at hl 2 rfl) ?_
        refine lv_icmp_ge (tgt := 44) hx hb dDecreePool_sweep_16 (by decide) (fun _ => ?_) (fun h9 => absurd (nI_le (by omega) (by omega)) h9)
        refine lv_iload_n hx hb dDecreePool_sweep_44 rfl (lv_at hl 0 rfl) ?_
        have hi1 : i = (sSw n P kk x).1 := hR.1
        have hy1 : y = (sSw n P kk x).2 := hR.2
        have hres : sSweep n P x (nI kk) = (nI (sSw n P kk x).1, (sSw n P kk x).2) := by
          unfold sSweep
          rw [if_pos (show 0 ≤ nI kk ∧ nI kk ≤ nI 100 from h4), ix_nI hkk (by omega)]
        exact W.iret (v := nI i) hx hb hr (fun t9 ht9 hW9 => ⟨⟨nI i, (wX q cI n S P y), rfl, ⟨by rw [hres]; exact congrArg nI hi1, by rw [hres, ← hy1]⟩, by rw [ht9]; exact hP, va_K.moved hW9.alike hK, hD⟩, hS.F ht9⟩) hS.2.2 dDecreePool_sweep_45
      | succ d14 ih14 =>
        intro i y ls H locs hid14 hInv hR hl hP hD hS
        refine lv_iload_n hx hb dDecreePool_sweep_14 rfl (lv_at hl 0 rfl) ?_
        refine lv_iload_n hx hb dDecreePool_sweep_15 rfl (lv_at hl 2 rfl) ?_
        refine lv_icmp_ge (tgt := 44) hx hb dDecreePool_sweep_16 (by decide) (fun h9 => absurd h9 (nI_ge (by omega) (by omega))) (fun _ => ?_)
        refine lv_aload_n hx hb dDecreePool_sweep_19 rfl (lv_at hl 1 rfl) ?_
        have hPc := hP.sub (ws' := (wX q cI n S P y)) [0, 1, 2, 3, 4, 5, 6, 7, 8, 9, 10, 11, 12, 13, 14, 15] rfl
        have hDc := hD.sub (ws' := (wX q cI n S P y)) [0, 1, 2, 3, 4, 5, 6, 7, 8, 9, 10, 11, 12, 13, 14, 15] (by decide) rfl
        refine kx_i (va_runV (As := []) (rest := []) ⟨hx, hb, hml, hown, hts⟩ ((c_leastDeliverable l D cI cZ q n S P y (hn1) (hn5) (hS1) (hS4) (hP5) (hP64) (hInv.1) (hInv.2.2.2.2)) H.size) (cwV 0 hts (gV wd283 wd285 sl_DecreePool_leastDeliverable wd1 wd286) rfl rfl rfl (by decide +kernel) ⟨Nat.le_of_ble_eq_true rfl, Nat.le_of_ble_eq_true rfl⟩) ⟨fb_PW, va_recv (q0 := 0) (ci := 0) hK hPc rfl rfl, pre_PW hK hPc hDc hZ⟩ rfl rfl hl.1 rfl (lv_room (Nat.le_of_ble_eq_true rfl)) dDecreePool_sweep_20 ⟨Nat.zero_le _, Nat.zero_le _⟩) hP hD hS hA [0, 1, 2, 3, 4, 5, 6, 7, 8, 9, 10, 11, 12, 13, 14, 15] [] rfl rfl (by decide) (by decide) (fun r w1 H locs hw hP hD hS => ?_)
        rcases hw with ⟨rfl, h20, rfl⟩ | ⟨rfl, h20, rfl⟩
        · have hP : va_P D vwCl (wX q cI n S P y) H := hP
          have hD : va_D A (wX q cI n S P y) := hD
          have hsp := (ldv_spec n P y P 0).2.2.2 (by omega)
          refine lv_istore_n hx hb dDecreePool_sweep_23 rfl hl (by decide) rfl (fun ls hl => ?_)
          have hl : lv_has ls 4 [(3, .int (nI (ldv n P y P 0))), (2, .int (nI i)), (0, .ref (q 0)), (1, .int (nI kk))] := hl
          refine lv_iload_n hx hb dDecreePool_sweep_24 rfl (lv_at hl 0 rfl) ?_
          refine lv_iconst (v := (-1)) hx hb dDecreePool_sweep_25 (by decide) ?_
          refine lv_icmp_ne (tgt := 32) hx hb dDecreePool_sweep_26 (by decide) (fun _ => ?_) (fun h9 => absurd h9 (nI_nm1 (by omega)))
          refine lv_aload_n hx hb dDecreePool_sweep_32 rfl (lv_at hl 2 rfl) ?_
          refine lv_iload_n hx hb dDecreePool_sweep_33 rfl (lv_at hl 0 rfl) ?_
          have hPc := hP.sub (ws' := (wX q cI n S P y)) [0, 1, 2, 3, 4, 5, 6, 7, 8, 9, 10, 11, 12, 13, 14, 15] rfl
          have hDc := hD.sub (ws' := (wX q cI n S P y)) [0, 1, 2, 3, 4, 5, 6, 7, 8, 9, 10, 11, 12, 13, 14, 15] (by decide) rfl
          refine kx_i (va_runV (As := [.int (nI (ldv n P y P 0))]) (rest := []) ⟨hx, hb, hml, hown, hts⟩ ((c_handOver l D cI cZ q n S P y (ldv n P y P 0) (hn1) (hn5) (hS1) (hS4) (hP5) (hP64) (h20) (hInv.1 _ hsp.1) (hInv.2.2.2.2) (hsp.1) (hsp.2)) H.size) (cwV 1 hts (gV wd224 wd226 sl_DecreePool_handOver wd1 wd227) rfl rfl rfl (by decide +kernel) ⟨Nat.le_of_ble_eq_true rfl, Nat.le_of_ble_eq_true rfl⟩) ⟨fb_PW, va_recv (q0 := 0) (ci := 0) hK hPc rfl rfl, pre_PW hK hPc hDc hZ⟩ rfl rfl hl.1 rfl (lv_room (Nat.le_of_ble_eq_true rfl)) dDecreePool_sweep_34 ⟨Nat.zero_le _, Nat.zero_le _⟩) hP hD hS hA [0, 1, 2, 3, 4, 5, 6, 7, 8, 9, 10, 11, 12, 13, 14, 15] [] rfl rfl (by decide) (by decide) (fun r w1 H locs hw hP hD hS => ?_)
          obtain ⟨rfl, rfl⟩ := hw
          have hP : va_P D vwCl (wX q cI n S P ((sHo n P y (ldv n P y P 0)).2)) H := hP
          have hD : va_D A (wX q cI n S P ((sHo n P y (ldv n P y P 0)).2)) := hD
          refine lv_pop hx hb dDecreePool_sweep_37 rfl ?_
          refine lv_iinc (k := 1) (v := nI (i + 1)) hx hb dDecreePool_sweep_38 hl rfl ((nI_succ _).symm) (by decide) rfl (fun ls hl => ?_)
          have hl : lv_has ls 4 [(2, .int (nI (i + 1))), (3, .int (nI (ldv n P y P 0))), (0, .ref (q 0)), (1, .int (nI kk))] := hl
          refine lv_goto (tgt := 14) hx hb dDecreePool_sweep_41 (by decide) ?_
          exact ih14 (i + 1) ((sHo n P y (ldv n P y P 0)).2) ls H locs (by omega) (Inv_ho hn5 hS4 hInv hsp.1) (by rw [sSw_s (Nat.ne_of_lt h20)] at hR; exact ⟨by have h7 := hR.1; simp only at h7; omega, hR.2⟩) (lv_sub hl [0, 2, 3] rfl) hP hD hS
        · have hP : va_P D vwCl (wX q cI n S P y) H := hP
          have hD : va_D A (wX q cI n S P y) := hD
          refine lv_istore_n hx hb dDecreePool_sweep_23 rfl hl (by decide) rfl (fun ls hl => ?_)
          have hl : lv_has ls 4 [(3, .int (-1)), (2, .int (nI i)), (0, .ref (q 0)), (1, .int (nI kk))] := hl
          refine lv_iload_n hx hb dDecreePool_sweep_24 rfl (lv_at hl 0 rfl) ?_
          refine lv_iconst (v := (-1)) hx hb dDecreePool_sweep_25 (by decide) ?_
          refine lv_icmp_ne (tgt := 32) hx hb dDecreePool_sweep_26 (by decide) (fun h9 => absurd (by decide) h9) (fun _ => ?_)
          refine lv_goto (tgt := 44) hx hb dDecreePool_sweep_29 (by decide) ?_
          refine lv_iload_n hx hb dDecreePool_sweep_44 rfl (lv_at hl 1 rfl) ?_
          rw [sSw_e h20] at hR
          have hi1 : i = (sSw n P kk x).1 := hR.1
          have hy1 : y = (sSw n P kk x).2 := hR.2
          have hres : sSweep n P x (nI kk) = (nI (sSw n P kk x).1, (sSw n P kk x).2) := by
            unfold sSweep
            rw [if_pos (show 0 ≤ nI kk ∧ nI kk ≤ nI 100 from h4), ix_nI hkk (by omega)]
          exact W.iret (v := nI i) hx hb hr (fun t9 ht9 hW9 => ⟨⟨nI i, (wX q cI n S P y), rfl, ⟨by rw [hres]; exact congrArg nI hi1, by rw [hres, ← hy1]⟩, by rw [ht9]; exact hP, va_K.moved hW9.alike hK, hD⟩, hS.F ht9⟩) hS.2.2 dDecreePool_sweep_45
    exact loop14 kk 0 x ls H locs (by omega) (hIn) (⟨Nat.zero_add _, rfl⟩) hl hP hD hS
  · have hP : va_P D vwCl (wX q cI n S P x) H := hP
    have hD : va_D A (wX q cI n S P x) := hD
    refine lv_if_ne (tgt := 12) hx hb dDecreePool_sweep_7 (by decide) (fun h9 => absurd (by decide) h9) (fun _ => ?_)
    refine lv_iconst (v := (-1)) hx hb dDecreePool_sweep_10 (by decide) ?_
    exact W.iret (v := (-1)) hx hb hr (fun t9 ht9 hW9 => ⟨⟨(-1), (wX q cI n S P x), rfl, fin2 (if_neg h4), by rw [ht9]; exact hP, va_K.moved hW9.alike hK, hD⟩, hS.F ht9⟩) hS.2.2 dDecreePool_sweep_11
theorem dDecreePool_applied_0 : decode cDecreePool_applied 0 = .ok (.aload_n 0, 1) := by decide +kernel
theorem dDecreePool_applied_1 : decode cDecreePool_applied 1 = .ok (.iload_n 1, 1) := by decide +kernel
theorem dDecreePool_applied_2 : decode cDecreePool_applied 2 = .ok (.invokevirtual 110, 3) := by decide +kernel
theorem dDecreePool_applied_5 : decode cDecreePool_applied 5 = .ok (.ifCond .ne 5, 3) := by decide +kernel
theorem dDecreePool_applied_8 : decode cDecreePool_applied 8 = .ok (.lconst 0, 1) := by decide +kernel
theorem dDecreePool_applied_9 : decode cDecreePool_applied 9 = .ok (.lreturn, 1) := by decide +kernel
theorem dDecreePool_applied_10 : decode cDecreePool_applied 10 = .ok (.lconst 0, 1) := by decide +kernel
theorem dDecreePool_applied_11 : decode cDecreePool_applied 11 = .ok (.lstore_n 2, 1) := by decide +kernel
theorem dDecreePool_applied_12 : decode cDecreePool_applied 12 = .ok (.aload_n 0, 1) := by decide +kernel
theorem dDecreePool_applied_13 : decode cDecreePool_applied 13 = .ok (.iload_n 1, 1) := by decide +kernel
theorem dDecreePool_applied_14 : decode cDecreePool_applied 14 = .ok (.invokevirtual 155, 3) := by decide +kernel
theorem dDecreePool_applied_17 : decode cDecreePool_applied 17 = .ok (.istore 4, 2) := by decide +kernel
theorem dDecreePool_applied_19 : decode cDecreePool_applied 19 = .ok (.iconst 0, 1) := by decide +kernel
theorem dDecreePool_applied_20 : decode cDecreePool_applied 20 = .ok (.istore 5, 2) := by decide +kernel
theorem dDecreePool_applied_22 : decode cDecreePool_applied 22 = .ok (.iload 5, 2) := by decide +kernel
theorem dDecreePool_applied_24 : decode cDecreePool_applied 24 = .ok (.iload 4, 2) := by decide +kernel
theorem dDecreePool_applied_26 : decode cDecreePool_applied 26 = .ok (.if_icmp .ge 48, 3) := by decide +kernel
theorem dDecreePool_applied_29 : decode cDecreePool_applied 29 = .ok (.aload_n 0, 1) := by decide +kernel
theorem dDecreePool_applied_30 : decode cDecreePool_applied 30 = .ok (.getfield 48, 3) := by decide +kernel
theorem dDecreePool_applied_33 : decode cDecreePool_applied 33 = .ok (.aload_n 0, 1) := by decide +kernel
theorem dDecreePool_applied_34 : decode cDecreePool_applied 34 = .ok (.iload_n 1, 1) := by decide +kernel
theorem dDecreePool_applied_35 : decode cDecreePool_applied 35 = .ok (.iload 5, 2) := by decide +kernel
theorem dDecreePool_applied_37 : decode cDecreePool_applied 37 = .ok (.invokevirtual 69, 3) := by decide +kernel
theorem dDecreePool_applied_40 : decode cDecreePool_applied 40 = .ok (.invokevirtual 122, 3) := by decide +kernel
theorem dDecreePool_applied_43 : decode cDecreePool_applied 43 = .ok (.istore 6, 2) := by decide +kernel
theorem dDecreePool_applied_45 : decode cDecreePool_applied 45 = .ok (.iload 6, 2) := by decide +kernel
theorem dDecreePool_applied_47 : decode cDecreePool_applied 47 = .ok (.iconst 2, 1) := by decide +kernel
theorem dDecreePool_applied_48 : decode cDecreePool_applied 48 = .ok (.irem, 1) := by decide +kernel
theorem dDecreePool_applied_49 : decode cDecreePool_applied 49 = .ok (.ifCond .ne 11, 3) := by decide +kernel
theorem dDecreePool_applied_52 : decode cDecreePool_applied 52 = .ok (.lload_n 2, 1) := by decide +kernel
theorem dDecreePool_applied_53 : decode cDecreePool_applied 53 = .ok (.iload 6, 2) := by decide +kernel
theorem dDecreePool_applied_55 : decode cDecreePool_applied 55 = .ok (.i2l, 1) := by decide +kernel
theorem dDecreePool_applied_56 : decode cDecreePool_applied 56 = .ok (.ladd, 1) := by decide +kernel
theorem dDecreePool_applied_57 : decode cDecreePool_applied 57 = .ok (.goto 10, 3) := by decide +kernel
theorem dDecreePool_applied_60 : decode cDecreePool_applied 60 = .ok (.lload_n 2, 1) := by decide +kernel
theorem dDecreePool_applied_61 : decode cDecreePool_applied 61 = .ok (.iload 6, 2) := by decide +kernel
theorem dDecreePool_applied_63 : decode cDecreePool_applied 63 = .ok (.i2l, 1) := by decide +kernel
theorem dDecreePool_applied_64 : decode cDecreePool_applied 64 = .ok (.lmul, 1) := by decide +kernel
theorem dDecreePool_applied_65 : decode cDecreePool_applied 65 = .ok (.lconst 1, 1) := by decide +kernel
theorem dDecreePool_applied_66 : decode cDecreePool_applied 66 = .ok (.ladd, 1) := by decide +kernel
theorem dDecreePool_applied_67 : decode cDecreePool_applied 67 = .ok (.lstore_n 2, 1) := by decide +kernel
theorem dDecreePool_applied_68 : decode cDecreePool_applied 68 = .ok (.iinc 5  1, 3) := by decide +kernel
theorem dDecreePool_applied_71 : decode cDecreePool_applied 71 = .ok (.goto (-49), 3) := by decide +kernel
theorem dDecreePool_applied_74 : decode cDecreePool_applied 74 = .ok (.lload_n 2, 1) := by decide +kernel
theorem dDecreePool_applied_75 : decode cDecreePool_applied 75 = .ok (.lreturn, 1) := by decide +kernel
set_option maxRecDepth 100000 in
set_option maxHeartbeats 4000000 in
theorem c_applied (l : Launch) (D : va_G) (cI cZ : ClassId) (q : Nat → Nat) (n : Nat) (S : Nat) (P : Nat) (x : St) (nd : Int32) (hn1 : 1 ≤ n) (hn5 : n ≤ 5) (hS1 : 1 ≤ S) (hS4 : S ≤ 4) (hP5 : 5 ≤ P) (hP64 : P ≤ 64) (hIv : Ival x) : ML l D [(cI, .int), (cZ, .boolean)] yDecreePool_applied wsDecreePool_applied ({ frames := 2, cells := 0, slots := 0, locals := 44 }) [.ref (q 0), .int nd] (wX q cI n S P x) (fun r w => r = aApp n S x nd ∧ w = (wX q cI n S P x)) := by
  intro sz
  refine Met.ofW (cc := cDecreePool_applied) (maxL := 7) (ret := (Option.some .long)) (by decide) rfl ?_
  intro p e s m args below meth c s₁ B hml hv
  obtain ⟨rfl, hsz, hP, hK, hD0, hZ⟩ := hv
  have hx := B.exec
  have hb := B.bytes
  have hr := B.returns
  have hts := atoms_spec (ws := wsDecreePool_applied) B.pre
  have hown : s.vm.findClass RDecreePool = some m.cls := findClass_of_methodNamed B.named
  have hlocks := B.notSynchronized
  subst hsz
  have hD := hD0.self (sz := s.heap.size)
  generalize hAe : va_A (wX q cI n S P x) s.heap.size = A at hD ⊢
  have hA : ∀ q : Nat, s.heap.size ≤ q → A q := fun q h => by rw [← hAe]; exact Or.inr h
  have hS : va_S A s.heap s.heap [] := va_S.rf
  have hP : va_P D vwCl (wX q cI n S P x) s.heap := hP
  have hl := lv_entry ([.ref (q 0), .int nd]) (n := 7) (Nat.le_of_ble_eq_true rfl)
  rw [lg_entry_eq]
  generalize (lg_sl ([.ref (q 0), .int nd]) ++ List.replicate (7 - (lg_sl ([.ref (q 0), .int nd])).length) Slot.unset).toArray = ls at hl ⊢
  have hl : lv_has ls 7 [(0, .ref (q 0)), (1, .int nd)] := hl
  refine lv_aload_n hx hb dDecreePool_applied_0 rfl (lv_at hl 0 rfl) ?_
  refine lv_iload_n hx hb dDecreePool_applied_1 rfl (lv_at hl 1 rfl) ?_
  have hPc := hP.sub (ws' := (wX q cI n S P x)) [0, 1, 2, 3, 4, 5, 6, 7, 8, 9, 10, 11, 12, 13, 14, 15] rfl
  have hDc := hD.sub (ws' := (wX q cI n S P x)) [0, 1, 2, 3, 4, 5, 6, 7, 8, 9, 10, 11, 12, 13, 14, 15] (by decide) rfl
  refine kx_i (va_runV (As := [.int nd]) (rest := []) ⟨hx, hb, hml, hown, hts⟩ ((c_hasNode l D cI cZ q n S P x nd (hn1) (hn5) (hS1) (hS4) (hP5) (hP64)) s.heap.size) (cwV 1 hts (gV wd141 wd143 sl_DecreePool_hasNode wd1 wd144) rfl rfl rfl (by decide +kernel) ⟨Nat.le_of_ble_eq_true rfl, Nat.le_of_ble_eq_true rfl⟩) ⟨fb_PW, va_recv (q0 := 0) (ci := 0) hK hPc rfl rfl, pre_PW hK hPc hDc hZ⟩ rfl rfl hl.1 rfl (lv_room (Nat.le_of_ble_eq_true rfl)) dDecreePool_applied_2 ⟨Nat.zero_le _, Nat.zero_le _⟩) hP hD hS hA [0, 1, 2, 3, 4, 5, 6, 7, 8, 9, 10, 11, 12, 13, 14, 15] [] rfl rfl (by decide) (by decide) (fun r w1 H locs hw hP hD hS => ?_)
  rcases hw with ⟨rfl, h2, rfl⟩ | ⟨rfl, h2, rfl⟩
  · have hP : va_P D vwCl (wX q cI n S P x) H := hP
    have hD : va_D A (wX q cI n S P x) := hD
    obtain ⟨a, ha, rfl⟩ := okN_of (show n < 2 ^ 31 by omega) h2
    refine lv_if_ne (tgt := 10) hx hb dDecreePool_applied_5 (by decide) (fun _ => ?_) (fun h9 => absurd h9 (by decide))
    refine lv_lconst (v := 0) hx hb dDecreePool_applied_10 (by decide) ?_
    refine lv_lstore_n hx hb dDecreePool_applied_11 rfl hl (by decide) rfl (fun ls hl => ?_)
    have hl : lv_has ls 7 [(2, .long 0), (0, .ref (q 0)), (1, .int (nI a))] := hl
    refine lv_aload_n hx hb dDecreePool_applied_12 rfl (lv_at hl 1 rfl) ?_
    refine lv_iload_n hx hb dDecreePool_applied_13 rfl (lv_at hl 2 rfl) ?_
    have hPc := hP.sub (ws' := (wX q cI n S P x)) [0, 1, 2, 3, 4, 5, 6, 7, 8, 9, 10, 11, 12, 13, 14, 15] rfl
    have hDc := hD.sub (ws' := (wX q cI n S P x)) [0, 1, 2, 3, 4, 5, 6, 7, 8, 9, 10, 11, 12, 13, 14, 15] (by decide) rfl
    refine kx_i (va_runV (As := [.int (nI a)]) (rest := []) ⟨hx, hb, hml, hown, hts⟩ ((c_pfxLength l D cI cZ q n S P x a (hn1) (hn5) (hS1) (hS4) (hP5) (hP64) (ha)) H.size) (cwV 1 hts (gV wd380 wd382 sl_DecreePool_prefixLength wd1 wd383) rfl rfl rfl (by decide +kernel) ⟨Nat.le_of_ble_eq_true rfl, Nat.le_of_ble_eq_true rfl⟩) ⟨fb_PW, va_recv (q0 := 0) (ci := 0) hK hPc rfl rfl, pre_PW hK hPc hDc hZ⟩ rfl rfl hl.1 rfl (lv_room (Nat.le_of_ble_eq_true rfl)) dDecreePool_applied_14 ⟨Nat.zero_le _, Nat.zero_le _⟩) hP hD hS hA [0, 1, 2, 3, 4, 5, 6, 7, 8, 9, 10, 11, 12, 13, 14, 15] [] rfl rfl (by decide) (by decide) (fun r w1 H locs hw hP hD hS => ?_)
    obtain ⟨rfl, rfl⟩ := hw
    have hP : va_P D vwCl (wX q cI n S P x) H := hP
    have hD : va_D A (wX q cI n S P x) := hD
    refine lv_istore hx hb dDecreePool_applied_17 hl (by decide) rfl (fun ls hl => ?_)
    have hl : lv_has ls 7 [(4, .int (nI (lst (x.1 11 a) S 0))), (2, .long 0), (0, .ref (q 0)), (1, .int (nI a))] := hl
    have hPF : lst (x.1 11 a) S 0 ≤ S := by have h7 := (lst_spec (x.1 11 a) S 0).2.1; omega
    refine lv_iconst (v := nI 0) hx hb dDecreePool_applied_19 (by decide) ?_
    refine lv_istore hx hb dDecreePool_applied_20 hl (by decide) rfl (fun ls hl => ?_)
    have hl : lv_has ls 7 [(5, .int (nI 0)), (4, .int (nI (lst (x.1 11 a) S 0))), (2, .long 0), (0, .ref (q 0)), (1, .int (nI a))] := hl
    have loop22 : ∀ (d22 i : Nat) (ls : Array Slot) (H : Heap) (locs : List Loc), i + d22 = lst (x.1 11 a) S 0 → lv_has ls 7 [(5, .int (nI i)), (4, .int (nI (lst (x.1 11 a) S 0))), (2, .long (appl (x.1 11 a) i)), (0, .ref (q 0)), (1, .int (nI a))] → va_P D vwCl (wX q cI n S P x) H → va_D A (wX q cI n S P x) → va_S A s.heap H locs → W p l e (headSpec wsDecreePool_applied { frames := 2, cells := 0, slots := 0, locals := 44 }).room s m [.ref (q 0), .int (nI a)].toArray below meth c H locs 0 0 (MQ below (va_Ql (fun r w => r = aApp n S x (nI a) ∧ w = (wX q cI n S P x)) (QW D [(cI, .int), (cZ, .boolean)] A) A) [.ref (q 0), .int (nI a)].toArray s 0 0 A) (F0 m 22 ls []) := by
      intro d22
      induction d22 with
      | zero =>
        intro i ls H locs hid22  hl hP hD hS
        refine lv_iload hx hb dDecreePool_applied_22 (lv_at hl 0 rfl) ?_
        refine lv_iload hx hb dDecreePool_applied_24 (lv_at hl 1 rfl) ?_
        refine lv_icmp_ge (tgt := 74) hx hb dDecreePool_applied_26 (by decide) (fun _ => ?_) (fun h9 => absurd (nI_le (by omega) (by omega)) h9)
        refine lv_lload_n hx hb dDecreePool_applied_74 rfl (lv_at hl 2 rfl) ?_
        have hin : i = lst (x.1 11 a) S 0 := by omega
        rw [hin]
        exact W.lret (v := appl (x.1 11 a) (lst (x.1 11 a) S 0)) hx hb hr (fun t9 ht9 hW9 => ⟨⟨appl (x.1 11 a) (lst (x.1 11 a) S 0), (wX q cI n S P x), rfl, ⟨by unfold aApp; rw [if_pos h2, ix_nI ha (by omega)], rfl⟩, by rw [ht9]; exact hP, va_K.moved hW9.alike hK, hD⟩, hS.F ht9⟩) hS.2.2 dDecreePool_applied_75
      | succ d22 ih22 =>
        intro i ls H locs hid22  hl hP hD hS
        refine lv_iload hx hb dDecreePool_applied_22 (lv_at hl 0 rfl) ?_
        refine lv_iload hx hb dDecreePool_applied_24 (lv_at hl 1 rfl) ?_
        refine lv_icmp_ge (tgt := 74) hx hb dDecreePool_applied_26 (by decide) (fun h9 => absurd h9 (nI_ge (by omega) (by omega))) (fun _ => ?_)
        refine lv_aload_n hx hb dDecreePool_applied_29 rfl (lv_at hl 3 rfl) ?_
        refine va_get (D := D) (ci := 0) (v := .ref (q 13)) (C := RDecreePool) (T := TDecreePool) (N := 9) hx hb hts (fun w h => mc (uDecreePool_in w h)) hown hK hP 0 rfl rfl 5 (by decide) (hts _ (mc wd110)) (fun _ h9 => h9) rfl dDecreePool_applied_30 ?_
        refine lv_aload_n hx hb dDecreePool_applied_33 rfl (lv_at hl 3 rfl) ?_
        refine lv_iload_n hx hb dDecreePool_applied_34 rfl (lv_at hl 4 rfl) ?_
        refine lv_iload hx hb dDecreePool_applied_35 (lv_at hl 0 rfl) ?_
        have hPc := hP.sub (ws' := (wX q cI n S P x)) [0, 1, 2, 3, 4, 5, 6, 7, 8, 9, 10, 11, 12, 13, 14, 15] rfl
        have hDc := hD.sub (ws' := (wX q cI n S P x)) [0, 1, 2, 3, 4, 5, 6, 7, 8, 9, 10, 11, 12, 13, 14, 15] (by decide) rfl
        refine kx_i (va_runV (As := [.int (nI a), .int (nI i)]) (rest := [.ref (q 13)]) ⟨hx, hb, hml, hown, hts⟩ ((c_seatOf l D cI cZ q n S P x a i (hn1) (hn5) (hS1) (hS4) (hP5) (hP64)) H.size) (cwV 2 hts (gV wd153 wd155 sl_DecreePool_seatOf wd1 wd156) rfl rfl rfl (by decide +kernel) ⟨Nat.le_of_ble_eq_true rfl, Nat.le_of_ble_eq_true rfl⟩) ⟨fb_PW, va_recv (q0 := 0) (ci := 0) hK hPc rfl rfl, pre_PW hK hPc hDc hZ⟩ rfl rfl hl.1 rfl (lv_room (Nat.le_of_ble_eq_true rfl)) dDecreePool_applied_37 ⟨Nat.zero_le _, Nat.zero_le _⟩) hP hD hS hA [0, 1, 2, 3, 4, 5, 6, 7, 8, 9, 10, 11, 12, 13, 14, 15] [] rfl rfl (by decide) (by decide) (fun r w1 H locs hw hP hD hS => ?_)
        obtain ⟨rfl, rfl⟩ := hw
        have hP : va_P D vwCl (wX q cI n S P x) H := hP
        have hD : va_D A (wX q cI n S P x) := hD
        have hPc := hP.sub (ws' := (wLe q cI n (n * S) (hq n S (x.2 0)) (sq S (x.1 11)))) [13, 14, 15] rfl
        have hDc := hD.sub (ws' := (wLe q cI n (n * S) (hq n S (x.2 0)) (sq S (x.1 11)))) [13, 14, 15] (by decide) rfl
        refine kx_i (va_runV (As := [.int (nI (a * S + i))]) (rest := []) ⟨hx, hb, hml, hown, hts⟩ ((c_decree l D cI cZ q n (n * S) (hq n S (x.2 0)) (sq S (x.1 11)) (a * S + i) (L20 hn5 hS4) (seat_lt ha (by omega))) H.size) (cwV 1 hts (gV wd325 wd326 wd327 wd6 wd328) rfl rfl rfl (by decide +kernel) ⟨Nat.le_of_ble_eq_true rfl, Nat.le_of_ble_eq_true rfl⟩) ⟨fb_PW, va_recv (q0 := 0) (ci := 4) hK hPc rfl rfl, pre_PW hK hPc hDc hZ⟩ rfl rfl hl.1 rfl (lv_room (Nat.le_of_ble_eq_true rfl)) dDecreePool_applied_40 ⟨Nat.zero_le _, Nat.zero_le _⟩) hP hD hS hA [13, 14, 15] [0, 1, 2, 3, 4, 5, 6, 7, 8, 9, 10, 11, 12] rfl rfl (by decide) (by decide) (fun r w1 H locs hw hP hD hS => ?_)
        obtain ⟨rfl, rfl⟩ := hw
        have hP : va_P D vwCl (wX q cI n S P x) H := hP
        have hD : va_D A (wX q cI n S P x) := hD
        refine lv_topi (nm_r (sq_at (by omega)) ?_)
        refine lv_istore hx hb dDecreePool_applied_43 hl (by decide) rfl (fun ls hl => ?_)
        have hl : lv_has ls 7 [(6, .int (x.1 11 a i)), (5, .int (nI i)), (4, .int (nI (lst (x.1 11 a) S 0))), (2, .long (appl (x.1 11 a) i)), (0, .ref (q 0)), (1, .int (nI a))] := hl
        refine lv_iload hx hb dDecreePool_applied_45 (lv_at hl 0 rfl) ?_
        refine lv_iconst (v := nI 2) hx hb dDecreePool_applied_47 (by decide) ?_
        refine lv_irem hx hb dDecreePool_applied_48 (by decide) ?_
        refine lv_if_ne (tgt := 60) hx hb dDecreePool_applied_49 (by decide) (fun c49 => ?_) (fun c49 => ?_)
        · refine lv_lload_n hx hb dDecreePool_applied_60 rfl (lv_at hl 3 rfl) ?_
          refine lv_iload hx hb dDecreePool_applied_61 (lv_at hl 0 rfl) ?_
          refine lv_i2l (v := (x.1 11 a i).toInt64) hx hb dDecreePool_applied_63 rfl ?_
          refine lv_lmul hx hb dDecreePool_applied_64 ?_
          refine lv_lconst (v := 1) hx hb dDecreePool_applied_65 (by decide) ?_
          refine lv_ladd hx hb dDecreePool_applied_66 ?_
          refine lv_topl (nm_r (app_f (f := x.1 11 a) (fun q9 => c49 ((app_i (hIv.2.2.2.2 a i)).mpr q9))) ?_)
          refine lv_lstore_n hx hb dDecreePool_applied_67 rfl hl (by decide) rfl (fun ls hl => ?_)
          have hl : lv_has ls 7 [(2, .long (appl (x.1 11 a) (i + 1))), (6, .int (x.1 11 a i)), (5, .int (nI i)), (4, .int (nI (lst (x.1 11 a) S 0))), (0, .ref (q 0)), (1, .int (nI a))] := hl
          refine lv_iinc (k := 2) (v := nI (i + 1)) hx hb dDecreePool_applied_68 hl rfl ((nI_succ _).symm) (by decide) rfl (fun ls hl => ?_)
          have hl : lv_has ls 7 [(5, .int (nI (i + 1))), (2, .long (appl (x.1 11 a) (i + 1))), (6, .int (x.1 11 a i)), (4, .int (nI (lst (x.1 11 a) S 0))), (0, .ref (q 0)), (1, .int (nI a))] := hl
          refine lv_goto (tgt := 22) hx hb dDecreePool_applied_71 (by decide) ?_
          exact ih22 (i + 1) ls H locs (by omega) (lv_sub hl [0, 3, 1, 4, 5] rfl) hP hD hS
        · refine lv_lload_n hx hb dDecreePool_applied_52 rfl (lv_at hl 3 rfl) ?_
          refine lv_iload hx hb dDecreePool_applied_53 (lv_at hl 0 rfl) ?_
          refine lv_i2l (v := (x.1 11 a i).toInt64) hx hb dDecreePool_applied_55 rfl ?_
          refine lv_ladd hx hb dDecreePool_applied_56 ?_
          refine lv_goto (tgt := 67) hx hb dDecreePool_applied_57 (by decide) ?_
          refine lv_topl (nm_r (app_t (f := x.1 11 a) ((app_i (hIv.2.2.2.2 a i)).mp c49)) ?_)
          refine lv_lstore_n hx hb dDecreePool_applied_67 rfl hl (by decide) rfl (fun ls hl => ?_)
          have hl : lv_has ls 7 [(2, .long (appl (x.1 11 a) (i + 1))), (6, .int (x.1 11 a i)), (5, .int (nI i)), (4, .int (nI (lst (x.1 11 a) S 0))), (0, .ref (q 0)), (1, .int (nI a))] := hl
          refine lv_iinc (k := 2) (v := nI (i + 1)) hx hb dDecreePool_applied_68 hl rfl ((nI_succ _).symm) (by decide) rfl (fun ls hl => ?_)
          have hl : lv_has ls 7 [(5, .int (nI (i + 1))), (2, .long (appl (x.1 11 a) (i + 1))), (6, .int (x.1 11 a i)), (4, .int (nI (lst (x.1 11 a) S 0))), (0, .ref (q 0)), (1, .int (nI a))] := hl
          refine lv_goto (tgt := 22) hx hb dDecreePool_applied_71 (by decide) ?_
          exact ih22 (i + 1) ls H locs (by omega) (lv_sub hl [0, 3, 1, 4, 5] rfl) hP hD hS
    exact loop22 (lst (x.1 11 a) S 0) 0 ls H locs (by omega) hl hP hD hS
  · have hP : va_P D vwCl (wX q cI n S P x) H := hP
    have hD : va_D A (wX q cI n S P x) := hD
    refine lv_if_ne (tgt := 10) hx hb dDecreePool_applied_5 (by decide) (fun h9 => absurd (by decide) h9) (fun _ => ?_)
    refine lv_lconst (v := 0) hx hb dDecreePool_applied_8 (by decide) ?_
    exact W.lret (v := 0) hx hb hr (fun t9 ht9 hW9 => ⟨⟨0, (wX q cI n S P x), rfl, ⟨by unfold aApp; rw [if_neg h2], rfl⟩, by rw [ht9]; exact hP, va_K.moved hW9.alike hK, hD⟩, hS.F ht9⟩) hS.2.2 dDecreePool_applied_9
