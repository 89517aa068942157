theorem dDecreePool_prepare_0 : decode cDecreePool_prepare 0 = .ok (.aload_n 0, 1) := by decide +kernel
theorem dDecreePool_prepare_1 : decode cDecreePool_prepare 1 = .ok (.iload_n 1, 1) := by decide +kernel
theorem dDecreePool_prepare_2 : decode cDecreePool_prepare 2 = .ok (.iload_n 2, 1) := by decide +kernel
theorem dDecreePool_prepare_3 : decode cDecreePool_prepare 3 = .ok (.invokevirtual 61, 3) := by decide +kernel
theorem dDecreePool_prepare_6 : decode cDecreePool_prepare 6 = .ok (.ifCond .eq 20, 3) := by decide +kernel
theorem dDecreePool_prepare_9 : decode cDecreePool_prepare 9 = .ok (.iload_n 3, 1) := by decide +kernel
theorem dDecreePool_prepare_10 : decode cDecreePool_prepare 10 = .ok (.iconst 0, 1) := by decide +kernel
theorem dDecreePool_prepare_11 : decode cDecreePool_prepare 11 = .ok (.sipush 1000, 3) := by decide +kernel
theorem dDecreePool_prepare_14 : decode cDecreePool_prepare 14 = .ok (.invokestatic 7, 3) := by decide +kernel
theorem dDecreePool_prepare_17 : decode cDecreePool_prepare 17 = .ok (.ifCond .eq 9, 3) := by decide +kernel
theorem dDecreePool_prepare_20 : decode cDecreePool_prepare 20 = .ok (.iload 4, 2) := by decide +kernel
theorem dDecreePool_prepare_22 : decode cDecreePool_prepare 22 = .ok (.iconst 1, 1) := by decide +kernel
theorem dDecreePool_prepare_23 : decode cDecreePool_prepare 23 = .ok (.if_icmp .ge 5, 3) := by decide +kernel
theorem dDecreePool_prepare_26 : decode cDecreePool_prepare 26 = .ok (.iconst (-1), 1) := by decide +kernel
theorem dDecreePool_prepare_27 : decode cDecreePool_prepare 27 = .ok (.ireturn, 1) := by decide +kernel
theorem dDecreePool_prepare_28 : decode cDecreePool_prepare 28 = .ok (.aload_n 0, 1) := by decide +kernel
theorem dDecreePool_prepare_29 : decode cDecreePool_prepare 29 = .ok (.iload_n 1, 1) := by decide +kernel
theorem dDecreePool_prepare_30 : decode cDecreePool_prepare 30 = .ok (.invokevirtual 65, 3) := by decide +kernel
theorem dDecreePool_prepare_33 : decode cDecreePool_prepare 33 = .ok (.ifCond .ne 6, 3) := by decide +kernel
theorem dDecreePool_prepare_36 : decode cDecreePool_prepare 36 = .ok (.bipush (-2), 2) := by decide +kernel
theorem dDecreePool_prepare_38 : decode cDecreePool_prepare 38 = .ok (.ireturn, 1) := by decide +kernel
theorem dDecreePool_prepare_39 : decode cDecreePool_prepare 39 = .ok (.aload_n 0, 1) := by decide +kernel
theorem dDecreePool_prepare_40 : decode cDecreePool_prepare 40 = .ok (.iload_n 1, 1) := by decide +kernel
theorem dDecreePool_prepare_41 : decode cDecreePool_prepare 41 = .ok (.iload_n 2, 1) := by decide +kernel
theorem dDecreePool_prepare_42 : decode cDecreePool_prepare 42 = .ok (.invokevirtual 69, 3) := by decide +kernel
theorem dDecreePool_prepare_45 : decode cDecreePool_prepare 45 = .ok (.istore 5, 2) := by decide +kernel
theorem dDecreePool_prepare_47 : decode cDecreePool_prepare 47 = .ok (.iload_n 3, 1) := by decide +kernel
theorem dDecreePool_prepare_48 : decode cDecreePool_prepare 48 = .ok (.aload_n 0, 1) := by decide +kernel
theorem dDecreePool_prepare_49 : decode cDecreePool_prepare 49 = .ok (.getfield 13, 3) := by decide +kernel
theorem dDecreePool_prepare_52 : decode cDecreePool_prepare 52 = .ok (.imul, 1) := by decide +kernel
theorem dDecreePool_prepare_53 : decode cDecreePool_prepare 53 = .ok (.iload_n 1, 1) := by decide +kernel
theorem dDecreePool_prepare_54 : decode cDecreePool_prepare 54 = .ok (.iadd, 1) := by decide +kernel
theorem dDecreePool_prepare_55 : decode cDecreePool_prepare 55 = .ok (.istore 6, 2) := by decide +kernel
theorem dDecreePool_prepare_57 : decode cDecreePool_prepare 57 = .ok (.iload 6, 2) := by decide +kernel
theorem dDecreePool_prepare_59 : decode cDecreePool_prepare 59 = .ok (.aload_n 0, 1) := by decide +kernel
theorem dDecreePool_prepare_60 : decode cDecreePool_prepare 60 = .ok (.getfield 34, 3) := by decide +kernel
theorem dDecreePool_prepare_63 : decode cDecreePool_prepare 63 = .ok (.iload 5, 2) := by decide +kernel
theorem dDecreePool_prepare_65 : decode cDecreePool_prepare 65 = .ok (.invokevirtual 73, 3) := by decide +kernel
theorem dDecreePool_prepare_68 : decode cDecreePool_prepare 68 = .ok (.if_icmp .gt 6, 3) := by decide +kernel
theorem dDecreePool_prepare_71 : decode cDecreePool_prepare 71 = .ok (.bipush (-3), 2) := by decide +kernel
theorem dDecreePool_prepare_73 : decode cDecreePool_prepare 73 = .ok (.ireturn, 1) := by decide +kernel
theorem dDecreePool_prepare_74 : decode cDecreePool_prepare 74 = .ok (.aload_n 0, 1) := by decide +kernel
theorem dDecreePool_prepare_75 : decode cDecreePool_prepare 75 = .ok (.getfield 25, 3) := by decide +kernel
theorem dDecreePool_prepare_78 : decode cDecreePool_prepare 78 = .ok (.invokevirtual 77, 3) := by decide +kernel
theorem dDecreePool_prepare_81 : decode cDecreePool_prepare 81 = .ok (.aload_n 0, 1) := by decide +kernel
theorem dDecreePool_prepare_82 : decode cDecreePool_prepare 82 = .ok (.getfield 13, 3) := by decide +kernel
theorem dDecreePool_prepare_85 : decode cDecreePool_prepare 85 = .ok (.if_icmp .ge 6, 3) := by decide +kernel
theorem dDecreePool_prepare_88 : decode cDecreePool_prepare 88 = .ok (.bipush (-4), 2) := by decide +kernel
theorem dDecreePool_prepare_90 : decode cDecreePool_prepare 90 = .ok (.ireturn, 1) := by decide +kernel
theorem dDecreePool_prepare_91 : decode cDecreePool_prepare 91 = .ok (.aload_n 0, 1) := by decide +kernel
theorem dDecreePool_prepare_92 : decode cDecreePool_prepare 92 = .ok (.getfield 34, 3) := by decide +kernel
theorem dDecreePool_prepare_95 : decode cDecreePool_prepare 95 = .ok (.iload 5, 2) := by decide +kernel
theorem dDecreePool_prepare_97 : decode cDecreePool_prepare 97 = .ok (.iload 6, 2) := by decide +kernel
theorem dDecreePool_prepare_99 : decode cDecreePool_prepare 99 = .ok (.iload 4, 2) := by decide +kernel
theorem dDecreePool_prepare_101 : decode cDecreePool_prepare 101 = .ok (.invokevirtual 81, 3) := by decide +kernel
theorem dDecreePool_prepare_104 : decode cDecreePool_prepare 104 = .ok (.aload_n 0, 1) := by decide +kernel
theorem dDecreePool_prepare_105 : decode cDecreePool_prepare 105 = .ok (.iconst 1, 1) := by decide +kernel
theorem dDecreePool_prepare_106 : decode cDecreePool_prepare 106 = .ok (.iload_n 1, 1) := by decide +kernel
theorem dDecreePool_prepare_107 : decode cDecreePool_prepare 107 = .ok (.iload_n 2, 1) := by decide +kernel
theorem dDecreePool_prepare_108 : decode cDecreePool_prepare 108 = .ok (.iload 6, 2) := by decide +kernel
theorem dDecreePool_prepare_110 : decode cDecreePool_prepare 110 = .ok (.iconst 0, 1) := by decide +kernel
theorem dDecreePool_prepare_111 : decode cDecreePool_prepare 111 = .ok (.invokevirtual 85, 3) := by decide +kernel
theorem dDecreePool_prepare_114 : decode cDecreePool_prepare 114 = .ok (.iload 6, 2) := by decide +kernel
theorem dDecreePool_prepare_116 : decode cDecreePool_prepare 116 = .ok (.ireturn, 1) := by decide +kernel
set_option maxRecDepth 100000 in
set_option maxHeartbeats 4000000 in
theorem c_prepare (l : Launch) (D : va_G) (cI cZ : ClassId) (q : Nat → Nat) (n : Nat) (S : Nat) (P : Nat) (x : St) (nd : Int32) (sl : Int32) (rd : Int32) (vl : Int32) (hn1 : 1 ≤ n) (hn5 : n ≤ 5) (hS1 : 1 ≤ S) (hS4 : S ≤ 4) (hP5 : 5 ≤ P) (hP64 : P ≤ 64) : MI l D [(cI, .int), (cZ, .boolean)] yDecreePool_prepare wsDecreePool_prepare ({ frames := 4, cells := 0, slots := 0, locals := 98 }) [.ref (q 0), .int nd, .int sl, .int rd, .int vl] (wX q cI n S P x) (fun r w => r = (sPrep n S P x nd sl rd vl).1 ∧ w = (wX q cI n S P (sPrep n S P x nd sl rd vl).2)) := by
  intro sz
  refine Met.ofW (cc := cDecreePool_prepare) (maxL := 7) (ret := (Option.some .int)) (by decide) rfl ?_
  intro p e s m args below meth c s₁ B hml hv
  obtain ⟨rfl, hsz, hP, hK, hD0, hZ⟩ := hv
  have hx := B.exec
  have hb := B.bytes
  have hr := B.returns
  have hts := atoms_spec (ws := wsDecreePool_prepare) B.pre
  have hown : s.vm.findClass RDecreePool = some m.cls := findClass_of_methodNamed B.named
  have hlocks := B.notSynchronized
  subst hsz
  have hD := hD0.self (sz := s.heap.size)
  generalize hAe : va_A (wX q cI n S P x) s.heap.size = A at hD ⊢
  have hA : ∀ q : Nat, s.heap.size ≤ q → A q := fun q h => by rw [← hAe]; exact Or.inr h
  have hS : va_S A s.heap s.heap [] := va_S.rf
  have hP : va_P D vwCl (wX q cI n S P x) s.heap := hP
  have hl := lv_entry ([.ref (q 0), .int nd, .int sl, .int rd, .int vl]) (n := 7) (Nat.le_of_ble_eq_true rfl)
  rw [lg_entry_eq]
  generalize (lg_sl ([.ref (q 0), .int nd, .int sl, .int rd, .int vl]) ++ List.replicate (7 - (lg_sl ([.ref (q 0), .int nd, .int sl, .int rd, .int vl])).length) Slot.unset).toArray = ls at hl ⊢
  have hl : lv_has ls 7 [(0, .ref (q 0)), (1, .int nd), (2, .int sl), (3, .int rd), (4, .int vl)] := hl
  refine lv_aload_n hx hb dDecreePool_prepare_0 rfl (lv_at hl 0 rfl) ?_
  refine lv_iload_n hx hb dDecreePool_prepare_1 rfl (lv_at hl 1 rfl) ?_
  refine lv_iload_n hx hb dDecreePool_prepare_2 rfl (lv_at hl 2 rfl) ?_
  have hPc := hP.sub (ws' := (wX q cI n S P x)) [0, 1, 2, 3, 4, 5, 6, 7, 8, 9, 10, 11, 12, 13, 14, 15] rfl
  have hDc := hD.sub (ws' := (wX q cI n S P x)) [0, 1, 2, 3, 4, 5, 6, 7, 8, 9, 10, 11, 12, 13, 14, 15] (by decide) rfl
  refine kx_i (va_runV (As := [.int nd, .int sl]) (rest := []) ⟨hx, hb, hml, hown, hts⟩ ((c_hasSeat l D cI cZ q n S P x nd sl (hn1) (hn5) (hS1) (hS4) (hP5) (hP64)) s.heap.size) (cwV 2 hts (gV wd137 wd139 sl_DecreePool_hasSeat wd1 wd140) rfl rfl rfl (by decide +kernel) ⟨Nat.le_of_ble_eq_true rfl, Nat.le_of_ble_eq_true rfl⟩) ⟨fb_PW, va_recv (q0 := 0) (ci := 0) hK hPc rfl rfl, pre_PW hK hPc hDc hZ⟩ rfl rfl hl.1 rfl (lv_room (Nat.le_of_ble_eq_true rfl)) dDecreePool_prepare_3 ⟨Nat.zero_le _, Nat.zero_le _⟩) hP hD hS hA [0, 1, 2, 3, 4, 5, 6, 7, 8, 9, 10, 11, 12, 13, 14, 15] [] rfl rfl (by decide) (by decide) (fun r w1 H locs hw hP hD hS => ?_)
  rcases hw with ⟨rfl, h3, rfl⟩ | ⟨rfl, h3, rfl⟩
  · have hP : va_P D vwCl (wX q cI n S P x) H := hP
    have hD : va_D A (wX q cI n S P x) := hD
    obtain ⟨a, ha, rfl⟩ := okN_of (show n < 2 ^ 31 by omega) h3.1
    obtain ⟨t, ht, rfl⟩ := okN_of (show S < 2 ^ 31 by omega) h3.2
    refine lv_if_eq (tgt := 26) hx hb dDecreePool_prepare_6 (by decide) (fun h9 => absurd h9 (by decide)) (fun _ => ?_)
    refine lv_iload_n hx hb dDecreePool_prepare_9 rfl (lv_at hl 3 rfl) ?_
    refine lv_iconst (v := nI 0) hx hb dDecreePool_prepare_10 (by decide) ?_
    refine lv_sipush (v := nI 1000) hx hb dDecreePool_prepare_11 (by decide) ?_
    have hPc := hP.sub (ws' := ([] : va_W)) [] rfl
    have hDc := hD.sub (ws' := ([] : va_W)) [] (by decide) rfl
    refine kx_i (va_runS (As := [.int rd, .int (nI 0), .int (nI 1000)]) (rest := []) ⟨hx, hb, hml, hown, hts⟩ ((c_isWithin l D cI cZ rd (nI 0) (nI 1000)) H.size) (va_cwS 3 hts (gS wd17 wd18 wd1 wd19) rfl rfl rfl (by decide +kernel) ⟨Nat.le_of_ble_eq_true rfl, Nat.le_of_ble_eq_true rfl⟩) ⟨fb_PW, pre_PW hK hPc hDc hZ⟩ rfl rfl hl.1 rfl (lv_room (Nat.le_of_ble_eq_true rfl)) dDecreePool_prepare_14 ⟨Nat.zero_le _, Nat.zero_le _⟩) hP hD hS hA [] [0, 1, 2, 3, 4, 5, 6, 7, 8, 9, 10, 11, 12, 13, 14, 15] rfl rfl (by decide) (by decide) (fun r w1 H locs hw hP hD hS => ?_)
    rcases hw with ⟨rfl, h14, rfl⟩ | ⟨rfl, h14, rfl⟩
    · have hP : va_P D vwCl (wX q cI n S P x) H := hP
      have hD : va_D A (wX q cI n S P x) := hD
      obtain ⟨rr, hrr, rfl⟩ := wi_of (P := 1001) (by decide) (by decide) h14
      refine lv_if_eq (tgt := 26) hx hb dDecreePool_prepare_17 (by decide) (fun h9 => absurd h9 (by decide)) (fun _ => ?_)
      refine lv_iload hx hb dDecreePool_prepare_20 (lv_at hl 4 rfl) ?_
      refine lv_iconst (v := nI 1) hx hb dDecreePool_prepare_22 (by decide) ?_
      refine lv_icmp_ge (tgt := 28) hx hb dDecreePool_prepare_23 (by decide) (fun c23 => ?_) (fun c23 => ?_)
      · have hok : okN (nI a) n ∧ okN (nI t) S ∧ 0 ≤ nI rr ∧ nI rr ≤ nI 1000 ∧ nI 1 ≤ vl := ⟨okN_nI ha (by omega), okN_nI ht (by omega), h14.1, h14.2, c23⟩
        have hbal : nI rr * nI n + nI a = nI (rr * n + a) := by rw [pk_mul, nI_add]
        refine lv_aload_n hx hb dDecreePool_prepare_28 rfl (lv_at hl 0 rfl) ?_
        refine lv_iload_n hx hb dDecreePool_prepare_29 rfl (lv_at hl 1 rfl) ?_
        have hPc := hP.sub (ws' := (wX q cI n S P x)) [0, 1, 2, 3, 4, 5, 6, 7, 8, 9, 10, 11, 12, 13, 14, 15] rfl
        have hDc := hD.sub (ws' := (wX q cI n S P x)) [0, 1, 2, 3, 4, 5, 6, 7, 8, 9, 10, 11, 12, 13, 14, 15] (by decide) rfl
        refine kx_i (va_runV (As := [.int (nI a)]) (rest := []) ⟨hx, hb, hml, hown, hts⟩ ((c_isUp l D cI cZ q n S P x a (hn1) (hn5) (hS1) (hS4) (hP5) (hP64) (by omega)) H.size) (cwV 1 hts (gV wd149 wd151 sl_DecreePool_isUp wd1 wd152) rfl rfl rfl (by decide +kernel) ⟨Nat.le_of_ble_eq_true rfl, Nat.le_of_ble_eq_true rfl⟩) ⟨fb_PW, va_recv (q0 := 0) (ci := 0) hK hPc rfl rfl, pre_PW hK hPc hDc hZ⟩ rfl rfl hl.1 rfl (lv_room (Nat.le_of_ble_eq_true rfl)) dDecreePool_prepare_30 ⟨Nat.zero_le _, Nat.zero_le _⟩) hP hD hS hA [0, 1, 2, 3, 4, 5, 6, 7, 8, 9, 10, 11, 12, 13, 14, 15] [] rfl rfl (by decide) (by decide) (fun r w1 H locs hw hP hD hS => ?_)
        rcases hw with ⟨rfl, h30, rfl⟩ | ⟨rfl, h30, rfl⟩
        · have hP : va_P D vwCl (wX q cI n S P x) H := hP
          have hD : va_D A (wX q cI n S P x) := hD
          refine lv_if_ne (tgt := 39) hx hb dDecreePool_prepare_33 (by decide) (fun _ => ?_) (fun h9 => absurd h9 (by decide))
          refine lv_aload_n hx hb dDecreePool_prepare_39 rfl (lv_at hl 0 rfl) ?_
          refine lv_iload_n hx hb dDecreePool_prepare_40 rfl (lv_at hl 1 rfl) ?_
          refine lv_iload_n hx hb dDecreePool_prepare_41 rfl (lv_at hl 2 rfl) ?_
          have hPc := hP.sub (ws' := (wX q cI n S P x)) [0, 1, 2, 3, 4, 5, 6, 7, 8, 9, 10, 11, 12, 13, 14, 15] rfl
          have hDc := hD.sub (ws' := (wX q cI n S P x)) [0, 1, 2, 3, 4, 5, 6, 7, 8, 9, 10, 11, 12, 13, 14, 15] (by decide) rfl
          refine kx_i (va_runV (As := [.int (nI a), .int (nI t)]) (rest := []) ⟨hx, hb, hml, hown, hts⟩ ((c_seatOf l D cI cZ q n S P x a t (hn1) (hn5) (hS1) (hS4) (hP5) (hP64)) H.size) (cwV 2 hts (gV wd153 wd155 sl_DecreePool_seatOf wd1 wd156) rfl rfl rfl (by decide +kernel) ⟨Nat.le_of_ble_eq_true rfl, Nat.le_of_ble_eq_true rfl⟩) ⟨fb_PW, va_recv (q0 := 0) (ci := 0) hK hPc rfl rfl, pre_PW hK hPc hDc hZ⟩ rfl rfl hl.1 rfl (lv_room (Nat.le_of_ble_eq_true rfl)) dDecreePool_prepare_42 ⟨Nat.zero_le _, Nat.zero_le _⟩) hP hD hS hA [0, 1, 2, 3, 4, 5, 6, 7, 8, 9, 10, 11, 12, 13, 14, 15] [] rfl rfl (by decide) (by decide) (fun r w1 H locs hw hP hD hS => ?_)
          obtain ⟨rfl, rfl⟩ := hw
          have hP : va_P D vwCl (wX q cI n S P x) H := hP
          have hD : va_D A (wX q cI n S P x) := hD
          refine lv_istore hx hb dDecreePool_prepare_45 hl (by decide) rfl (fun ls hl => ?_)
          have hl : lv_has ls 7 [(5, .int (nI (a * S + t))), (0, .ref (q 0)), (1, .int (nI a)), (2, .int (nI t)), (3, .int (nI rr)), (4, .int vl)] := hl
          refine lv_iload_n hx hb dDecreePool_prepare_47 rfl (lv_at hl 4 rfl) ?_
          refine lv_aload_n hx hb dDecreePool_prepare_48 rfl (lv_at hl 1 rfl) ?_
          refine va_get (D := D) (ci := 0) (v := .int (nI n)) (C := RDecreePool) (T := TDecreePool) (N := 9) hx hb hts (fun w h => mc (uDecreePool_in w h)) hown hK hP 0 rfl rfl 0 (by decide) (hts _ (mc wd105)) (fun _ h9 => h9) rfl dDecreePool_prepare_49 ?_
          refine lv_imul hx hb dDecreePool_prepare_52 ?_
          refine lv_topi (nm_r (pk_mul _ _) ?_)
          refine lv_iload_n hx hb dDecreePool_prepare_53 rfl (lv_at hl 2 rfl) ?_
          refine lv_iadd hx hb dDecreePool_prepare_54 ?_
          refine lv_topi (nm_r (nI_add _ _) ?_)
          refine lv_istore hx hb dDecreePool_prepare_55 hl (by decide) rfl (fun ls hl => ?_)
          have hl : lv_has ls 7 [(6, .int (nI (rr * n + a))), (5, .int (nI (a * S + t))), (0, .ref (q 0)), (1, .int (nI a)), (2, .int (nI t)), (3, .int (nI rr)), (4, .int vl)] := hl
          refine lv_iload hx hb dDecreePool_prepare_57 (lv_at hl 0 rfl) ?_
          refine lv_aload_n hx hb dDecreePool_prepare_59 rfl (lv_at hl 2 rfl) ?_
          refine va_get (D := D) (ci := 0) (v := .ref (q 3)) (C := RDecreePool) (T := TDecreePool) (N := 9) hx hb hts (fun w h => mc (uDecreePool_in w h)) hown hK hP 0 rfl rfl 3 (by decide) (hts _ (mc wd108)) (fun _ h9 => h9) rfl dDecreePool_prepare_60 ?_
          refine lv_iload hx hb dDecreePool_prepare_63 (lv_at hl 1 rfl) ?_
          have hPc := hP.sub (ws' := (wPr q cI n (n * S) (sq S (x.1 1)) (sq S (x.1 2)) (sq S (x.1 3)) (sq S (x.1 4)) (sq S (x.1 5)))) [3, 4, 5, 6, 7, 8] rfl
          have hDc := hD.sub (ws' := (wPr q cI n (n * S) (sq S (x.1 1)) (sq S (x.1 2)) (sq S (x.1 3)) (sq S (x.1 4)) (sq S (x.1 5)))) [3, 4, 5, 6, 7, 8] (by decide) rfl
          refine kx_i (va_runV (As := [.int (nI (a * S + t))]) (rest := [.int (nI (rr * n + a))]) ⟨hx, hb, hml, hown, hts⟩ ((c_pr_lastBallot l D cI cZ q n (n * S) (sq S (x.1 1)) (sq S (x.1 2)) (sq S (x.1 3)) (sq S (x.1 4)) (sq S (x.1 5)) (a * S + t) (L20 hn5 hS4) (seat_lt ha ht)) H.size) (cwV 1 hts (gV wd157 wd158 wd159 wd3 wd160) rfl rfl rfl (by decide +kernel) ⟨Nat.le_of_ble_eq_true rfl, Nat.le_of_ble_eq_true rfl⟩) ⟨fb_PW, va_recv (q0 := 0) (ci := 2) hK hPc rfl rfl, pre_PW hK hPc hDc hZ⟩ rfl rfl hl.1 rfl (lv_room (Nat.le_of_ble_eq_true rfl)) dDecreePool_prepare_65 ⟨Nat.zero_le _, Nat.zero_le _⟩) hP hD hS hA [3, 4, 5, 6, 7, 8] [0, 1, 2, 9, 10, 11, 12, 13, 14, 15] rfl rfl (by decide) (by decide) (fun r w1 H locs hw hP hD hS => ?_)
          obtain ⟨rfl, rfl⟩ := hw
          have hP : va_P D vwCl (wX q cI n S P x) H := hP.sub [0, 1, 2, 10, 11, 12, 13, 14, 15, 3, 4, 5, 6, 7, 8, 9] rfl
          have hD : va_D A (wX q cI n S P x) := hD.sub [0, 1, 2, 10, 11, 12, 13, 14, 15, 3, 4, 5, 6, 7, 8, 9] (by decide) rfl
          refine lv_topi (nm_r (sq_at ht) ?_)
          refine lv_icmp_gt (tgt := 74) hx hb dDecreePool_prepare_68 (by decide) (fun c68 => ?_) (fun c68 => ?_)
          · refine lv_aload_n hx hb dDecreePool_prepare_74 rfl (lv_at hl 2 rfl) ?_
            refine va_get (D := D) (ci := 0) (v := .ref (q 1)) (C := RDecreePool) (T := TDecreePool) (N := 9) hx hb hts (fun w h => mc (uDecreePool_in w h)) hown hK hP 0 rfl rfl 2 (by decide) (hts _ (mc wd107)) (fun _ h9 => h9) rfl dDecreePool_prepare_75 ?_
            have hPc := hP.sub (ws' := (wPo q cI P (x.1 0) (cntx P x))) [1, 2] rfl
            have hDc := hD.sub (ws' := (wPo q cI P (x.1 0) (cntx P x))) [1, 2] (by decide) rfl
            refine kx_i (va_runV (As := []) (rest := []) ⟨hx, hb, hml, hown, hts⟩ ((c_emptyPlaces l D cI cZ q P (x.1 0) (cntx P x) (cnt_le _ _)) H.size) (cwV 0 hts (gV wd161 wd162 wd163 wd2 wd164) rfl rfl rfl (by decide +kernel) ⟨Nat.le_of_ble_eq_true rfl, Nat.le_of_ble_eq_true rfl⟩) ⟨fb_PW, va_recv (q0 := 0) (ci := 1) hK hPc rfl rfl, pre_PW hK hPc hDc hZ⟩ rfl rfl hl.1 rfl (lv_room (Nat.le_of_ble_eq_true rfl)) dDecreePool_prepare_78 ⟨Nat.zero_le _, Nat.zero_le _⟩) hP hD hS hA [1, 2] [0, 3, 4, 5, 6, 7, 8, 9, 10, 11, 12, 13, 14, 15] rfl rfl (by decide) (by decide) (fun r w1 H locs hw hP hD hS => ?_)
            obtain ⟨rfl, rfl⟩ := hw
            have hP : va_P D vwCl (wX q cI n S P x) H := hP.sub [0, 14, 15, 1, 2, 3, 4, 5, 6, 7, 8, 9, 10, 11, 12, 13] rfl
            have hD : va_D A (wX q cI n S P x) := hD.sub [0, 14, 15, 1, 2, 3, 4, 5, 6, 7, 8, 9, 10, 11, 12, 13] (by decide) rfl
            refine lv_aload_n hx hb dDecreePool_prepare_81 rfl (lv_at hl 2 rfl) ?_
            refine va_get (D := D) (ci := 0) (v := .int (nI n)) (C := RDecreePool) (T := TDecreePool) (N := 9) hx hb hts (fun w h => mc (uDecreePool_in w h)) hown hK hP 0 rfl rfl 0 (by decide) (hts _ (mc wd105)) (fun _ h9 => h9) rfl dDecreePool_prepare_82 ?_
            refine lv_icmp_ge (tgt := 91) hx hb dDecreePool_prepare_85 (by decide) (fun c85 => ?_) (fun c85 => ?_)
            · have hfl : ¬ P - cntx P x < n := fun q => absurd c85 (nI_ge q (by omega))
              refine lv_aload_n hx hb dDecreePool_prepare_91 rfl (lv_at hl 2 rfl) ?_
              refine va_get (D := D) (ci := 0) (v := .ref (q 3)) (C := RDecreePool) (T := TDecreePool) (N := 9) hx hb hts (fun w h => mc (uDecreePool_in w h)) hown hK hP 0 rfl rfl 3 (by decide) (hts _ (mc wd108)) (fun _ h9 => h9) rfl dDecreePool_prepare_92 ?_
              refine lv_iload hx hb dDecreePool_prepare_95 (lv_at hl 1 rfl) ?_
              refine lv_iload hx hb dDecreePool_prepare_97 (lv_at hl 0 rfl) ?_
              refine lv_iload hx hb dDecreePool_prepare_99 (lv_at hl 6 rfl) ?_
              have hPc := hP.sub (ws' := (wPr q cI n (n * S) (sq S (x.1 1)) (sq S (x.1 2)) (sq S (x.1 3)) (sq S (x.1 4)) (sq S (x.1 5)))) [3, 4, 5, 6, 7, 8] rfl
              have hDc := hD.sub (ws' := (wPr q cI n (n * S) (sq S (x.1 1)) (sq S (x.1 2)) (sq S (x.1 3)) (sq S (x.1 4)) (sq S (x.1 5)))) [3, 4, 5, 6, 7, 8] (by decide) rfl
              refine kx_v (va_runV (As := [.int (nI (a * S + t)), .int (nI (rr * n + a)), .int vl]) (rest := []) ⟨hx, hb, hml, hown, hts⟩ ((c_begin l D cI cZ q n (n * S) (sq S (x.1 1)) (sq S (x.1 2)) (sq S (x.1 3)) (sq S (x.1 4)) (sq S (x.1 5)) (a * S + t) (nI (rr * n + a)) vl (L20 hn5 hS4) (seat_lt ha ht)) H.size) (cwV 3 hts (gV wd165 wd166 wd167 wd3 wd168) rfl rfl rfl (by decide +kernel) ⟨Nat.le_of_ble_eq_true rfl, Nat.le_of_ble_eq_true rfl⟩) ⟨fb_PW, va_recv (q0 := 0) (ci := 2) hK hPc rfl rfl, pre_PW hK hPc hDc hZ⟩ rfl rfl hl.1 rfl (lv_room (Nat.le_of_ble_eq_true rfl)) dDecreePool_prepare_101 ⟨Nat.zero_le _, Nat.zero_le _⟩) hP hD hS hA [3, 4, 5, 6, 7, 8] [0, 1, 2, 9, 10, 11, 12, 13, 14, 15] rfl rfl (by decide) (by decide) (fun w1 H locs hw hP hD hS => ?_)
              obtain rfl := hw
              have hP : va_P D vwCl (wD q cI n S P (n * S) (nI (msk (col (x.1 13) 0) n)) (x.1 12 0 0) (x.1 12 0 1) (x.1 0) (cntx P x) (upd (sq S (x.1 1)) (a * S + t) (nI 1)) (upd (sq S (x.1 2)) (a * S + t) (nI (rr * n + a))) (upd (sq S (x.1 3)) (a * S + t) (nI 0)) (upd (sq S (x.1 4)) (a * S + t) (-1)) (upd (sq S (x.1 5)) (a * S + t) vl) (sq S (x.1 8)) (sq S (x.1 9)) (sq S (x.1 10)) (hq n S (x.2 0)) (sq S (x.1 11))) H := hP.sub [0, 1, 2, 10, 11, 12, 13, 14, 15, 3, 4, 5, 6, 7, 8, 9] rfl
              have hD : va_D A (wD q cI n S P (n * S) (nI (msk (col (x.1 13) 0) n)) (x.1 12 0 0) (x.1 12 0 1) (x.1 0) (cntx P x) (upd (sq S (x.1 1)) (a * S + t) (nI 1)) (upd (sq S (x.1 2)) (a * S + t) (nI (rr * n + a))) (upd (sq S (x.1 3)) (a * S + t) (nI 0)) (upd (sq S (x.1 4)) (a * S + t) (-1)) (upd (sq S (x.1 5)) (a * S + t) vl) (sq S (x.1 8)) (sq S (x.1 9)) (sq S (x.1 10)) (hq n S (x.2 0)) (sq S (x.1 11))) := hD.sub [0, 1, 2, 10, 11, 12, 13, 14, 15, 3, 4, 5, 6, 7, 8, 9] (by decide) rfl
              have hW1 : (wD q cI n S P (n * S) (nI (msk (col (x.1 13) 0) n)) (x.1 12 0 0) (x.1 12 0 1) (x.1 0) (cntx P x) (upd (sq S (x.1 1)) (a * S + t) (nI 1)) (upd (sq S (x.1 2)) (a * S + t) (nI (rr * n + a))) (upd (sq S (x.1 3)) (a * S + t) (nI 0)) (upd (sq S (x.1 4)) (a * S + t) (-1)) (upd (sq S (x.1 5)) (a * S + t) vl) (sq S (x.1 8)) (sq S (x.1 9)) (sq S (x.1 10)) (hq n S (x.2 0)) (sq S (x.1 11))) = (wX q cI n S P (sBegin x a t (nI (rr * n + a)) vl)) := by rw [sq_up ht, sq_up ht, sq_up ht, sq_up ht, sq_up ht]; try rfl
              rw [hW1] at hP hD
              refine lv_aload_n hx hb dDecreePool_prepare_104 rfl (lv_at hl 2 rfl) ?_
              refine lv_iconst (v := nI 1) hx hb dDecreePool_prepare_105 (by decide) ?_
              refine lv_iload_n hx hb dDecreePool_prepare_106 rfl (lv_at hl 3 rfl) ?_
              refine lv_iload_n hx hb dDecreePool_prepare_107 rfl (lv_at hl 4 rfl) ?_
              refine lv_iload hx hb dDecreePool_prepare_108 (lv_at hl 0 rfl) ?_
              refine lv_iconst (v := nI 0) hx hb dDecreePool_prepare_110 (by decide) ?_
              have hPc := hP.sub (ws' := (wX q cI n S P (sBegin x a t (nI (rr * n + a)) vl))) [0, 1, 2, 3, 4, 5, 6, 7, 8, 9, 10, 11, 12, 13, 14, 15] rfl
              have hDc := hD.sub (ws' := (wX q cI n S P (sBegin x a t (nI (rr * n + a)) vl))) [0, 1, 2, 3, 4, 5, 6, 7, 8, 9, 10, 11, 12, 13, 14, 15] (by decide) rfl
              refine kx_v (va_runV (As := [.int (nI 1), .int (nI a), .int (nI t), .int (nI (rr * n + a)), .int (nI 0)]) (rest := []) ⟨hx, hb, hml, hown, hts⟩ ((c_sendToAll l D cI cZ q n S P (sBegin x a t (nI (rr * n + a)) vl) (nI 1) (nI a) (nI t) (nI (rr * n + a)) (nI 0) (hn1) (hn5) (hS1) (hS4) (hP5) (hP64) (by decide) (by have h7 : cntx P x ≤ P := cnt_le _ _; show cntx P x + n ≤ P; omega)) H.size) (cwV 5 hts (gV wd169 wd171 sl_DecreePool_sendToAll wd1 wd172) rfl rfl rfl (by decide +kernel) ⟨Nat.le_of_ble_eq_true rfl, Nat.le_of_ble_eq_true rfl⟩) ⟨fb_PW, va_recv (q0 := 0) (ci := 0) hK hPc rfl rfl, pre_PW hK hPc hDc hZ⟩ rfl rfl hl.1 rfl (lv_room (Nat.le_of_ble_eq_true rfl)) dDecreePool_prepare_111 ⟨Nat.zero_le _, Nat.zero_le _⟩) hP hD hS hA [0, 1, 2, 3, 4, 5, 6, 7, 8, 9, 10, 11, 12, 13, 14, 15] [] rfl rfl (by decide) (by decide) (fun w1 H locs hw hP hD hS => ?_)
              obtain rfl := hw
              have hP : va_P D vwCl (wX q cI n S P (sendA P (sBegin x a t (nI (rr * n + a)) vl) (nI 1) (nI a) (nI t) (nI (rr * n + a)) (nI 0) n)) H := hP
              have hD : va_D A (wX q cI n S P (sendA P (sBegin x a t (nI (rr * n + a)) vl) (nI 1) (nI a) (nI t) (nI (rr * n + a)) (nI 0) n)) := hD
              refine lv_iload hx hb dDecreePool_prepare_114 (lv_at hl 0 rfl) ?_
              exact W.iret (v := nI (rr * n + a)) hx hb hr (fun t9 ht9 hW9 => ⟨⟨nI (rr * n + a), (wX q cI n S P (sendA P (sBegin x a t (nI (rr * n + a)) vl) (nI 1) (nI a) (nI t) (nI (rr * n + a)) (nI 0) n)), rfl, fin2 (by unfold sPrep; rw [if_pos hok, ix_nI ha (by omega), ix_nI ht (by omega), if_neg (fun q => q h30), hbal, if_neg (Int32.not_le.mpr c68), if_neg hfl]; try rfl), by rw [ht9]; exact hP, va_K.moved hW9.alike hK, hD⟩, hS.F ht9⟩) hS.2.2 dDecreePool_prepare_116
            · have hfl : P - cntx P x < n := Nat.lt_of_not_le (fun q => c85 (nI_le q (by omega)))
              refine lv_bipush (v := (-4)) hx hb dDecreePool_prepare_88 (by decide) ?_
              exact W.iret (v := (-4)) hx hb hr (fun t9 ht9 hW9 => ⟨⟨(-4), (wX q cI n S P x), rfl, fin2 (by unfold sPrep; rw [if_pos hok, ix_nI ha (by omega), ix_nI ht (by omega), if_neg (fun q => q h30), hbal, if_neg (Int32.not_le.mpr c68), if_pos hfl]; try rfl), by rw [ht9]; exact hP, va_K.moved hW9.alike hK, hD⟩, hS.F ht9⟩) hS.2.2 dDecreePool_prepare_90
          · refine lv_bipush (v := (-3)) hx hb dDecreePool_prepare_71 (by decide) ?_
            exact W.iret (v := (-3)) hx hb hr (fun t9 ht9 hW9 => ⟨⟨(-3), (wX q cI n S P x), rfl, fin2 (by unfold sPrep; rw [if_pos hok, ix_nI ha (by omega), ix_nI ht (by omega), if_neg (fun q => q h30), hbal, if_pos (Int32.not_lt.mp c68)]; try rfl), by rw [ht9]; exact hP, va_K.moved hW9.alike hK, hD⟩, hS.F ht9⟩) hS.2.2 dDecreePool_prepare_73
        · have hP : va_P D vwCl (wX q cI n S P x) H := hP
          have hD : va_D A (wX q cI n S P x) := hD
          refine lv_if_ne (tgt := 39) hx hb dDecreePool_prepare_33 (by decide) (fun h9 => absurd (by decide) h9) (fun _ => ?_)
          refine lv_bipush (v := (-2)) hx hb dDecreePool_prepare_36 (by decide) ?_
          exact W.iret (v := (-2)) hx hb hr (fun t9 ht9 hW9 => ⟨⟨(-2), (wX q cI n S P x), rfl, fin2 (by unfold sPrep; rw [if_pos hok, ix_nI ha (by omega), ix_nI ht (by omega), if_pos h30]; try rfl), by rw [ht9]; exact hP, va_K.moved hW9.alike hK, hD⟩, hS.F ht9⟩) hS.2.2 dDecreePool_prepare_38
      · refine lv_iconst (v := (-1)) hx hb dDecreePool_prepare_26 (by decide) ?_
        exact W.iret (v := (-1)) hx hb hr (fun t9 ht9 hW9 => ⟨⟨(-1), (wX q cI n S P x), rfl, fin2 (if_neg (fun h => c23 h.2.2.2.2)), by rw [ht9]; exact hP, va_K.moved hW9.alike hK, hD⟩, hS.F ht9⟩) hS.2.2 dDecreePool_prepare_27
    · have hP : va_P D vwCl (wX q cI n S P x) H := hP
      have hD : va_D A (wX q cI n S P x) := hD
      refine lv_if_eq (tgt := 26) hx hb dDecreePool_prepare_17 (by decide) (fun _ => ?_) (fun h9 => absurd (by decide) h9)
      refine lv_iconst (v := (-1)) hx hb dDecreePool_prepare_26 (by decide) ?_
      exact W.iret (v := (-1)) hx hb hr (fun t9 ht9 hW9 => ⟨⟨(-1), (wX q cI n S P x), rfl, fin2 (if_neg (fun h => h14 ⟨h.2.2.1, h.2.2.2.1⟩)), by rw [ht9]; exact hP, va_K.moved hW9.alike hK, hD⟩, hS.F ht9⟩) hS.2.2 dDecreePool_prepare_27
  · have hP : va_P D vwCl (wX q cI n S P x) H := hP
    have hD : va_D A (wX q cI n S P x) := hD
    refine lv_if_eq (tgt := 26) hx hb dDecreePool_prepare_6 (by decide) (fun _ => ?_) (fun h9 => absurd (by decide) h9)
    refine lv_iconst (v := (-1)) hx hb dDecreePool_prepare_26 (by decide) ?_
    exact W.iret (v := (-1)) hx hb hr (fun t9 ht9 hW9 => ⟨⟨(-1), (wX q cI n S P x), rfl, fin2 (if_neg (fun h => h3 ⟨h.1, h.2.1⟩)), by rw [ht9]; exact hP, va_K.moved hW9.alike hK, hD⟩, hS.F ht9⟩) hS.2.2 dDecreePool_prepare_27
theorem dDecreePool_deliver_0 : decode cDecreePool_deliver 0 = .ok (.aload_n 0, 1) := by decide +kernel
theorem dDecreePool_deliver_1 : decode cDecreePool_deliver 1 = .ok (.getfield 25, 3) := by decide +kernel
theorem dDecreePool_deliver_4 : decode cDecreePool_deliver 4 = .ok (.iload_n 1, 1) := by decide +kernel
theorem dDecreePool_deliver_5 : decode cDecreePool_deliver 5 = .ok (.invokevirtual 89, 3) := by decide +kernel
theorem dDecreePool_deliver_8 : decode cDecreePool_deliver 8 = .ok (.ifCond .ne 5, 3) := by decide +kernel
theorem dDecreePool_deliver_11 : decode cDecreePool_deliver 11 = .ok (.iconst (-1), 1) := by decide +kernel
theorem dDecreePool_deliver_12 : decode cDecreePool_deliver 12 = .ok (.ireturn, 1) := by decide +kernel
theorem dDecreePool_deliver_13 : decode cDecreePool_deliver 13 = .ok (.aload_n 0, 1) := by decide +kernel
theorem dDecreePool_deliver_14 : decode cDecreePool_deliver 14 = .ok (.iload_n 1, 1) := by decide +kernel
theorem dDecreePool_deliver_15 : decode cDecreePool_deliver 15 = .ok (.invokevirtual 92, 3) := by decide +kernel
theorem dDecreePool_deliver_18 : decode cDecreePool_deliver 18 = .ok (.ifCond .ne 6, 3) := by decide +kernel
theorem dDecreePool_deliver_21 : decode cDecreePool_deliver 21 = .ok (.bipush (-4), 2) := by decide +kernel
theorem dDecreePool_deliver_23 : decode cDecreePool_deliver 23 = .ok (.ireturn, 1) := by decide +kernel
theorem dDecreePool_deliver_24 : decode cDecreePool_deliver 24 = .ok (.aload_n 0, 1) := by decide +kernel
theorem dDecreePool_deliver_25 : decode cDecreePool_deliver 25 = .ok (.iload_n 1, 1) := by decide +kernel
theorem dDecreePool_deliver_26 : decode cDecreePool_deliver 26 = .ok (.invokevirtual 95, 3) := by decide +kernel
theorem dDecreePool_deliver_29 : decode cDecreePool_deliver 29 = .ok (.ireturn, 1) := by decide +kernel
set_option maxRecDepth 100000 in
set_option maxHeartbeats 4000000 in
theorem c_deliver (l : Launch) (D : va_G) (cI cZ : ClassId) (q : Nat → Nat) (n : Nat) (S : Nat) (P : Nat) (x : St) (v : Int32) (hn1 : 1 ≤ n) (hn5 : n ≤ 5) (hS1 : 1 ≤ S) (hS4 : S ≤ 4) (hP5 : 5 ≤ P) (hP64 : P ≤ 64) (hM : Imsg n S x) (hI : Ibit x) : MI l D [(cI, .int), (cZ, .boolean)] yDecreePool_deliver wsDecreePool_deliver ({ frames := 5, cells := 0, slots := 0, locals := 127 }) [.ref (q 0), .int v] (wX q cI n S P x) (fun r w => r = (sDel n P x v).1 ∧ w = (wX q cI n S P (sDel n P x v).2)) := by
  intro sz
  refine Met.ofW (cc := cDecreePool_deliver) (maxL := 2) (ret := (Option.some .int)) (by decide) rfl ?_
  intro p e s m args below meth c s₁ B hml hv
  obtain ⟨rfl, hsz, hP, hK, hD0, hZ⟩ := hv
  have hx := B.exec
  have hb := B.bytes
  have hr := B.returns
  have hts := atoms_spec (ws := wsDecreePool_deliver) B.pre
  have hown : s.vm.findClass RDecreePool = some m.cls := findClass_of_methodNamed B.named
  have hlocks := B.notSynchronized
  subst hsz
  have hD := hD0.self (sz := s.heap.size)
  generalize hAe : va_A (wX q cI n S P x) s.heap.size = A at hD ⊢
  have hA : ∀ q : Nat, s.heap.size ≤ q → A q := fun q h => by rw [← hAe]; exact Or.inr h
  have hS : va_S A s.heap s.heap [] := va_S.rf
  have hP : va_P D vwCl (wX q cI n S P x) s.heap := hP
  have hl := lv_entry ([.ref (q 0), .int v]) (n := 2) (Nat.le_of_ble_eq_true rfl)
  rw [lg_entry_eq]
  generalize (lg_sl ([.ref (q 0), .int v]) ++ List.replicate (2 - (lg_sl ([.ref (q 0), .int v])).length) Slot.unset).toArray = ls at hl ⊢
  have hl : lv_has ls 2 [(0, .ref (q 0)), (1, .int v)] := hl
  refine lv_aload_n hx hb dDecreePool_deliver_0 rfl (lv_at hl 0 rfl) ?_
  refine va_get (D := D) (ci := 0) (v := .ref (q 1)) (C := RDecreePool) (T := TDecreePool) (N := 9) hx hb hts (fun w h => mc (uDecreePool_in w h)) hown hK hP 0 rfl rfl 2 (by decide) (hts _ (mc wd107)) (fun _ h9 => h9) rfl dDecreePool_deliver_1 ?_
  refine lv_iload_n hx hb dDecreePool_deliver_4 rfl (lv_at hl 1 rfl) ?_
  have hPc := hP.sub (ws' := (wPo q cI P (x.1 0) (cntx P x))) [1, 2] rfl
  have hDc := hD.sub (ws' := (wPo q cI P (x.1 0) (cntx P x))) [1, 2] (by decide) rfl
  refine kx_i (va_runV (As := [.int v]) (rest := []) ⟨hx, hb, hml, hown, hts⟩ ((c_holds l D cI cZ q P (x.1 0) (cntx P x) v (hP64) (by omega)) s.heap.size) (cwV 1 hts (gV wd189 wd190 wd191 wd2 wd192) rfl rfl rfl (by decide +kernel) ⟨Nat.le_of_ble_eq_true rfl, Nat.le_of_ble_eq_true rfl⟩) ⟨fb_PW, va_recv (q0 := 0) (ci := 1) hK hPc rfl rfl, pre_PW hK hPc hDc hZ⟩ rfl rfl hl.1 rfl (lv_room (Nat.le_of_ble_eq_true rfl)) dDecreePool_deliver_5 ⟨Nat.zero_le _, Nat.zero_le _⟩) hP hD hS hA [1, 2] [0, 3, 4, 5, 6, 7, 8, 9, 10, 11, 12, 13, 14, 15] rfl rfl (by decide) (by decide) (fun r w1 H locs hw hP hD hS => ?_)
  rcases hw with ⟨rfl, h5, rfl⟩ | ⟨rfl, h5, rfl⟩
  · have hP : va_P D vwCl (wX q cI n S P x) H := hP.sub [0, 14, 15, 1, 2, 3, 4, 5, 6, 7, 8, 9, 10, 11, 12, 13] rfl
    have hD : va_D A (wX q cI n S P x) := hD.sub [0, 14, 15, 1, 2, 3, 4, 5, 6, 7, 8, 9, 10, 11, 12, 13] (by decide) rfl
    obtain ⟨j, hj, rfl⟩ := okN_of (show P < 2 ^ 31 by omega) h5.1
    have hk0 : x.1 0 j 0 ≠ 0 := by have h6 := h5.2; rw [ix_nI hj (by omega)] at h6; exact h6
    have hisM : isM P x (nI j) := h5
    refine lv_if_ne (tgt := 13) hx hb dDecreePool_deliver_8 (by decide) (fun _ => ?_) (fun h9 => absurd h9 (by decide))
    refine lv_aload_n hx hb dDecreePool_deliver_13 rfl (lv_at hl 0 rfl) ?_
    refine lv_iload_n hx hb dDecreePool_deliver_14 rfl (lv_at hl 1 rfl) ?_
    have hPc := hP.sub (ws' := (wX q cI n S P x)) [0, 1, 2, 3, 4, 5, 6, 7, 8, 9, 10, 11, 12, 13, 14, 15] rfl
    have hDc := hD.sub (ws' := (wX q cI n S P x)) [0, 1, 2, 3, 4, 5, 6, 7, 8, 9, 10, 11, 12, 13, 14, 15] (by decide) rfl
    refine kx_i (va_runV (As := [.int (nI j)]) (rest := []) ⟨hx, hb, hml, hown, hts⟩ ((c_isDeliverable l D cI cZ q n S P x j (hn1) (hn5) (hS1) (hS4) (hP5) (hP64) (hj) (hM j hk0) (hI)) H.size) (cwV 1 hts (gV wd194 wd196 sl_DecreePool_isDeliverable wd1 wd197) rfl rfl rfl (by decide +kernel) ⟨Nat.le_of_ble_eq_true rfl, Nat.le_of_ble_eq_true rfl⟩) ⟨fb_PW, va_recv (q0 := 0) (ci := 0) hK hPc rfl rfl, pre_PW hK hPc hDc hZ⟩ rfl rfl hl.1 rfl (lv_room (Nat.le_of_ble_eq_true rfl)) dDecreePool_deliver_15 ⟨Nat.zero_le _, Nat.zero_le _⟩) hP hD hS hA [0, 1, 2, 3, 4, 5, 6, 7, 8, 9, 10, 11, 12, 13, 14, 15] [] rfl rfl (by decide) (by decide) (fun r w1 H locs hw hP hD hS => ?_)
    rcases hw with ⟨rfl, h15, rfl⟩ | ⟨rfl, h15, rfl⟩
    · have hP : va_P D vwCl (wX q cI n S P x) H := hP
      have hD : va_D A (wX q cI n S P x) := hD
      refine lv_if_ne (tgt := 24) hx hb dDecreePool_deliver_18 (by decide) (fun _ => ?_) (fun h9 => absurd h9 (by decide))
      refine lv_aload_n hx hb dDecreePool_deliver_24 rfl (lv_at hl 0 rfl) ?_
      refine lv_iload_n hx hb dDecreePool_deliver_25 rfl (lv_at hl 1 rfl) ?_
      have hPc := hP.sub (ws' := (wX q cI n S P x)) [0, 1, 2, 3, 4, 5, 6, 7, 8, 9, 10, 11, 12, 13, 14, 15] rfl
      have hDc := hD.sub (ws' := (wX q cI n S P x)) [0, 1, 2, 3, 4, 5, 6, 7, 8, 9, 10, 11, 12, 13, 14, 15] (by decide) rfl
      refine kx_i (va_runV (As := [.int (nI j)]) (rest := []) ⟨hx, hb, hml, hown, hts⟩ ((c_handOver l D cI cZ q n S P x j (hn1) (hn5) (hS1) (hS4) (hP5) (hP64) (hj) (hM j hk0) (hI) (hk0) (h15)) H.size) (cwV 1 hts (gV wd224 wd226 sl_DecreePool_handOver wd1 wd227) rfl rfl rfl (by decide +kernel) ⟨Nat.le_of_ble_eq_true rfl, Nat.le_of_ble_eq_true rfl⟩) ⟨fb_PW, va_recv (q0 := 0) (ci := 0) hK hPc rfl rfl, pre_PW hK hPc hDc hZ⟩ rfl rfl hl.1 rfl (lv_room (Nat.le_of_ble_eq_true rfl)) dDecreePool_deliver_26 ⟨Nat.zero_le _, Nat.zero_le _⟩) hP hD hS hA [0, 1, 2, 3, 4, 5, 6, 7, 8, 9, 10, 11, 12, 13, 14, 15] [] rfl rfl (by decide) (by decide) (fun r w1 H locs hw hP hD hS => ?_)
      obtain ⟨rfl, rfl⟩ := hw
      have hP : va_P D vwCl (wX q cI n S P ((sHo n P x j).2)) H := hP
      have hD : va_D A (wX q cI n S P ((sHo n P x j).2)) := hD
      exact W.iret (v := (sHo n P x j).1) hx hb hr (fun t9 ht9 hW9 => ⟨⟨(sHo n P x j).1, (wX q cI n S P ((sHo n P x j).2)), rfl, fin2 (by unfold sDel; rw [if_pos hisM, ix_nI hj (by omega), if_neg h15]), by rw [ht9]; exact hP, va_K.moved hW9.alike hK, hD⟩, hS.F ht9⟩) hS.2.2 dDecreePool_deliver_29
    · have hP : va_P D vwCl (wX q cI n S P x) H := hP
      have hD : va_D A (wX q cI n S P x) := hD
      refine lv_if_ne (tgt := 24) hx hb dDecreePool_deliver_18 (by decide) (fun h9 => absurd (by decide) h9) (fun _ => ?_)
      refine lv_bipush (v := (-4)) hx hb dDecreePool_deliver_21 (by decide) ?_
      exact W.iret (v := (-4)) hx hb hr (fun t9 ht9 hW9 => ⟨⟨(-4), (wX q cI n S P x), rfl, fin2 (by unfold sDel; rw [if_pos hisM, ix_nI hj (by omega), if_pos h15]), by rw [ht9]; exact hP, va_K.moved hW9.alike hK, hD⟩, hS.F ht9⟩) hS.2.2 dDecreePool_deliver_23
  · have hP : va_P D vwCl (wX q cI n S P x) H := hP.sub [0, 14, 15, 1, 2, 3, 4, 5, 6, 7, 8, 9, 10, 11, 12, 13] rfl
    have hD : va_D A (wX q cI n S P x) := hD.sub [0, 14, 15, 1, 2, 3, 4, 5, 6, 7, 8, 9, 10, 11, 12, 13] (by decide) rfl
    refine lv_if_ne (tgt := 13) hx hb dDecreePool_deliver_8 (by decide) (fun h9 => absurd (by decide) h9) (fun _ => ?_)
    refine lv_iconst (v := (-1)) hx hb dDecreePool_deliver_11 (by decide) ?_
    exact W.iret (v := (-1)) hx hb hr (fun t9 ht9 hW9 => ⟨⟨(-1), (wX q cI n S P x), rfl, fin2 (if_neg h5), by rw [ht9]; exact hP, va_K.moved hW9.alike hK, hD⟩, hS.F ht9⟩) hS.2.2 dDecreePool_deliver_12
theorem dDecreePool_drop_0 : decode cDecreePool_drop 0 = .ok (.aload_n 0, 1) := by decide +kernel
theorem dDecreePool_drop_1 : decode cDecreePool_drop 1 = .ok (.getfield 25, 3) := by decide +kernel
theorem dDecreePool_drop_4 : decode cDecreePool_drop 4 = .ok (.iload_n 1, 1) := by decide +kernel
theorem dDecreePool_drop_5 : decode cDecreePool_drop 5 = .ok (.invokevirtual 89, 3) := by decide +kernel
theorem dDecreePool_drop_8 : decode cDecreePool_drop 8 = .ok (.ifCond .ne 5, 3) := by decide +kernel
theorem dDecreePool_drop_11 : decode cDecreePool_drop 11 = .ok (.iconst (-1), 1) := by decide +kernel
theorem dDecreePool_drop_12 : decode cDecreePool_drop 12 = .ok (.ireturn, 1) := by decide +kernel
theorem dDecreePool_drop_13 : decode cDecreePool_drop 13 = .ok (.aload_n 0, 1) := by decide +kernel
theorem dDecreePool_drop_14 : decode cDecreePool_drop 14 = .ok (.getfield 25, 3) := by decide +kernel
theorem dDecreePool_drop_17 : decode cDecreePool_drop 17 = .ok (.iload_n 1, 1) := by decide +kernel
theorem dDecreePool_drop_18 : decode cDecreePool_drop 18 = .ok (.iconst 0, 1) := by decide +kernel
theorem dDecreePool_drop_19 : decode cDecreePool_drop 19 = .ok (.invokevirtual 101, 3) := by decide +kernel
theorem dDecreePool_drop_22 : decode cDecreePool_drop 22 = .ok (.istore_n 2, 1) := by decide +kernel
theorem dDecreePool_drop_23 : decode cDecreePool_drop 23 = .ok (.aload_n 0, 1) := by decide +kernel
theorem dDecreePool_drop_24 : decode cDecreePool_drop 24 = .ok (.getfield 25, 3) := by decide +kernel
theorem dDecreePool_drop_27 : decode cDecreePool_drop 27 = .ok (.iload_n 1, 1) := by decide +kernel
theorem dDecreePool_drop_28 : decode cDecreePool_drop 28 = .ok (.invokevirtual 104, 3) := by decide +kernel
theorem dDecreePool_drop_31 : decode cDecreePool_drop 31 = .ok (.aload_n 0, 1) := by decide +kernel
theorem dDecreePool_drop_32 : decode cDecreePool_drop 32 = .ok (.dup, 1) := by decide +kernel
theorem dDecreePool_drop_33 : decode cDecreePool_drop 33 = .ok (.getfield 58, 3) := by decide +kernel
theorem dDecreePool_drop_36 : decode cDecreePool_drop 36 = .ok (.iconst 1, 1) := by decide +kernel
theorem dDecreePool_drop_37 : decode cDecreePool_drop 37 = .ok (.iadd, 1) := by decide +kernel
theorem dDecreePool_drop_38 : decode cDecreePool_drop 38 = .ok (.putfield 58, 3) := by decide +kernel
theorem dDecreePool_drop_41 : decode cDecreePool_drop 41 = .ok (.iload_n 2, 1) := by decide +kernel
theorem dDecreePool_drop_42 : decode cDecreePool_drop 42 = .ok (.ireturn, 1) := by decide +kernel
set_option maxRecDepth 100000 in
set_option maxHeartbeats 4000000 in
theorem c_drop (l : Launch) (D : va_G) (cI cZ : ClassId) (q : Nat → Nat) (n : Nat) (S : Nat) (P : Nat) (x : St) (v : Int32) (hn1 : 1 ≤ n) (hn5 : n ≤ 5) (hS1 : 1 ≤ S) (hS4 : S ≤ 4) (hP5 : 5 ≤ P) (hP64 : P ≤ 64) : MI l D [(cI, .int), (cZ, .boolean)] yDecreePool_drop wsDecreePool_drop ({ frames := 2, cells := 0, slots := 0, locals := 43 }) [.ref (q 0), .int v] (wX q cI n S P x) (fun r w => r = (sDrop P x v).1 ∧ w = (wX q cI n S P (sDrop P x v).2)) := by
  intro sz
  refine Met.ofW (cc := cDecreePool_drop) (maxL := 3) (ret := (Option.some .int)) (by decide) rfl ?_
  intro p e s m args below meth c s₁ B hml hv
  obtain ⟨rfl, hsz, hP, hK, hD0, hZ⟩ := hv
  have hx := B.exec
  have hb := B.bytes
  have hr := B.returns
  have hts := atoms_spec (ws := wsDecreePool_drop) B.pre
  have hown : s.vm.findClass RDecreePool = some m.cls := findClass_of_methodNamed B.named
  have hlocks := B.notSynchronized
  subst hsz
  have hD := hD0.self (sz := s.heap.size)
  generalize hAe : va_A (wX q cI n S P x) s.heap.size = A at hD ⊢
  have hA : ∀ q : Nat, s.heap.size ≤ q → A q := fun q h => by rw [← hAe]; exact Or.inr h
  have hS : va_S A s.heap s.heap [] := va_S.rf
  have hP : va_P D vwCl (wX q cI n S P x) s.heap := hP
  have hl := lv_entry ([.ref (q 0), .int v]) (n := 3) (Nat.le_of_ble_eq_true rfl)
  rw [lg_entry_eq]
  generalize (lg_sl ([.ref (q 0), .int v]) ++ List.replicate (3 - (lg_sl ([.ref (q 0), .int v])).length) Slot.unset).toArray = ls at hl ⊢
  have hl : lv_has ls 3 [(0, .ref (q 0)), (1, .int v)] := hl
  refine lv_aload_n hx hb dDecreePool_drop_0 rfl (lv_at hl 0 rfl) ?_
  refine va_get (D := D) (ci := 0) (v := .ref (q 1)) (C := RDecreePool) (T := TDecreePool) (N := 9) hx hb hts (fun w h => mc (uDecreePool_in w h)) hown hK hP 0 rfl rfl 2 (by decide) (hts _ (mc wd107)) (fun _ h9 => h9) rfl dDecreePool_drop_1 ?_
  refine lv_iload_n hx hb dDecreePool_drop_4 rfl (lv_at hl 1 rfl) ?_
  have hPc := hP.sub (ws' := (wPo q cI P (x.1 0) (cntx P x))) [1, 2] rfl
  have hDc := hD.sub (ws' := (wPo q cI P (x.1 0) (cntx P x))) [1, 2] (by decide) rfl
  refine kx_i (va_runV (As := [.int v]) (rest := []) ⟨hx, hb, hml, hown, hts⟩ ((c_holds l D cI cZ q P (x.1 0) (cntx P x) v (hP64) (by omega)) s.heap.size) (cwV 1 hts (gV wd189 wd190 wd191 wd2 wd192) rfl rfl rfl (by decide +kernel) ⟨Nat.le_of_ble_eq_true rfl, Nat.le_of_ble_eq_true rfl⟩) ⟨fb_PW, va_recv (q0 := 0) (ci := 1) hK hPc rfl rfl, pre_PW hK hPc hDc hZ⟩ rfl rfl hl.1 rfl (lv_room (Nat.le_of_ble_eq_true rfl)) dDecreePool_drop_5 ⟨Nat.zero_le _, Nat.zero_le _⟩) hP hD hS hA [1, 2] [0, 3, 4, 5, 6, 7, 8, 9, 10, 11, 12, 13, 14, 15] rfl rfl (by decide) (by decide) (fun r w1 H locs hw hP hD hS => ?_)
  rcases hw with ⟨rfl, h5, rfl⟩ | ⟨rfl, h5, rfl⟩
  · have hP : va_P D vwCl (wX q cI n S P x) H := hP.sub [0, 14, 15, 1, 2, 3, 4, 5, 6, 7, 8, 9, 10, 11, 12, 13] rfl
    have hD : va_D A (wX q cI n S P x) := hD.sub [0, 14, 15, 1, 2, 3, 4, 5, 6, 7, 8, 9, 10, 11, 12, 13] (by decide) rfl
    obtain ⟨j, hj, rfl⟩ := okN_of (show P < 2 ^ 31 by omega) h5.1
    have hk0 : x.1 0 j 0 ≠ 0 := by have h6 := h5.2; rw [ix_nI hj (by omega)] at h6; exact h6
    have hisM : isM P x (nI j) := h5
    refine lv_if_ne (tgt := 13) hx hb dDecreePool_drop_8 (by decide) (fun _ => ?_) (fun h9 => absurd h9 (by decide))
    refine lv_aload_n hx hb dDecreePool_drop_13 rfl (lv_at hl 0 rfl) ?_
    refine va_get (D := D) (ci := 0) (v := .ref (q 1)) (C := RDecreePool) (T := TDecreePool) (N := 9) hx hb hts (fun w h => mc (uDecreePool_in w h)) hown hK hP 0 rfl rfl 2 (by decide) (hts _ (mc wd107)) (fun _ h9 => h9) rfl dDecreePool_drop_14 ?_
    refine lv_iload_n hx hb dDecreePool_drop_17 rfl (lv_at hl 1 rfl) ?_
    refine lv_iconst (v := nI 0) hx hb dDecreePool_drop_18 (by decide) ?_
    have hPc := hP.sub (ws' := (wPo q cI P (x.1 0) (cntx P x))) [1, 2] rfl
    have hDc := hD.sub (ws' := (wPo q cI P (x.1 0) (cntx P x))) [1, 2] (by decide) rfl
    refine kx_i (va_runV (As := [.int (nI j), .int (nI 0)]) (rest := []) ⟨hx, hb, hml, hown, hts⟩ ((c_field l D cI cZ q P (x.1 0) (cntx P x) j 0 (hP64) (hj) (by omega)) H.size) (cwV 2 hts (gV wd202 wd182 wd183 wd2 wd184) rfl rfl rfl (by decide +kernel) ⟨Nat.le_of_ble_eq_true rfl, Nat.le_of_ble_eq_true rfl⟩) ⟨fb_PW, va_recv (q0 := 0) (ci := 1) hK hPc rfl rfl, pre_PW hK hPc hDc hZ⟩ rfl rfl hl.1 rfl (lv_room (Nat.le_of_ble_eq_true rfl)) dDecreePool_drop_19 ⟨Nat.zero_le _, Nat.zero_le _⟩) hP hD hS hA [1, 2] [0, 3, 4, 5, 6, 7, 8, 9, 10, 11, 12, 13, 14, 15] rfl rfl (by decide) (by decide) (fun r w1 H locs hw hP hD hS => ?_)
    obtain ⟨rfl, rfl⟩ := hw
    have hP : va_P D vwCl (wX q cI n S P x) H := hP.sub [0, 14, 15, 1, 2, 3, 4, 5, 6, 7, 8, 9, 10, 11, 12, 13] rfl
    have hD : va_D A (wX q cI n S P x) := hD.sub [0, 14, 15, 1, 2, 3, 4, 5, 6, 7, 8, 9, 10, 11, 12, 13] (by decide) rfl
    refine lv_istore_n hx hb dDecreePool_drop_22 rfl hl (by decide) rfl (fun ls hl => ?_)
    have hl : lv_has ls 3 [(2, .int (x.1 0 j 0)), (0, .ref (q 0)), (1, .int (nI j))] := hl
    refine lv_aload_n hx hb dDecreePool_drop_23 rfl (lv_at hl 1 rfl) ?_
    refine va_get (D := D) (ci := 0) (v := .ref (q 1)) (C := RDecreePool) (T := TDecreePool) (N := 9) hx hb hts (fun w h => mc (uDecreePool_in w h)) hown hK hP 0 rfl rfl 2 (by decide) (hts _ (mc wd107)) (fun _ h9 => h9) rfl dDecreePool_drop_24 ?_
    refine lv_iload_n hx hb dDecreePool_drop_27 rfl (lv_at hl 2 rfl) ?_
    have hPc := hP.sub (ws' := (wPo q cI P (x.1 0) (cntx P x))) [1, 2] rfl
    have hDc := hD.sub (ws' := (wPo q cI P (x.1 0) (cntx P x))) [1, 2] (by decide) rfl
    refine kx_v (va_runV (As := [.int (nI j)]) (rest := []) ⟨hx, hb, hml, hown, hts⟩ ((c_takeOut l D cI cZ q P (x.1 0) (cntx P x) j (hP64) (hj) (cnt_pos hj hk0)) H.size) (cwV 1 hts (gV wd228 wd229 wd230 wd2 wd231) rfl rfl rfl (by decide +kernel) ⟨Nat.le_of_ble_eq_true rfl, Nat.le_of_ble_eq_true rfl⟩) ⟨fb_PW, va_recv (q0 := 0) (ci := 1) hK hPc rfl rfl, pre_PW hK hPc hDc hZ⟩ rfl rfl hl.1 rfl (lv_room (Nat.le_of_ble_eq_true rfl)) dDecreePool_drop_28 ⟨Nat.zero_le _, Nat.zero_le _⟩) hP hD hS hA [1, 2] [0, 3, 4, 5, 6, 7, 8, 9, 10, 11, 12, 13, 14, 15] rfl rfl (by decide) (by decide) (fun w1 H locs hw hP hD hS => ?_)
    obtain rfl := hw
    have hP : va_P D vwCl (wD q cI n S P (n * S) (nI (msk (col (x.1 13) 0) n)) (x.1 12 0 0) (x.1 12 0 1) (up2 (x.1 0) j 0 (nI 0)) ((cntx P x) - 1) (sq S (x.1 1)) (sq S (x.1 2)) (sq S (x.1 3)) (sq S (x.1 4)) (sq S (x.1 5)) (sq S (x.1 8)) (sq S (x.1 9)) (sq S (x.1 10)) (hq n S (x.2 0)) (sq S (x.1 11))) H := hP.sub [0, 14, 15, 1, 2, 3, 4, 5, 6, 7, 8, 9, 10, 11, 12, 13] rfl
    have hD : va_D A (wD q cI n S P (n * S) (nI (msk (col (x.1 13) 0) n)) (x.1 12 0 0) (x.1 12 0 1) (up2 (x.1 0) j 0 (nI 0)) ((cntx P x) - 1) (sq S (x.1 1)) (sq S (x.1 2)) (sq S (x.1 3)) (sq S (x.1 4)) (sq S (x.1 5)) (sq S (x.1 8)) (sq S (x.1 9)) (sq S (x.1 10)) (hq n S (x.2 0)) (sq S (x.1 11))) := hD.sub [0, 14, 15, 1, 2, 3, 4, 5, 6, 7, 8, 9, 10, 11, 12, 13] (by decide) rfl
    have hW1 : (wD q cI n S P (n * S) (nI (msk (col (x.1 13) 0) n)) (x.1 12 0 0) (x.1 12 0 1) (up2 (x.1 0) j 0 (nI 0)) ((cntx P x) - 1) (sq S (x.1 1)) (sq S (x.1 2)) (sq S (x.1 3)) (sq S (x.1 4)) (sq S (x.1 5)) (sq S (x.1 8)) (sq S (x.1 9)) (sq S (x.1 10)) (hq n S (x.2 0)) (sq S (x.1 11))) = (wX q cI n S P (put x 0 j 0 (nI 0))) := by rw [show cntx P x - 1 = cntx P (put x 0 j 0 (nI 0)) by have := cnt_out hj hk0; omega]; try rfl
    rw [hW1] at hP hD
    refine lv_aload_n hx hb dDecreePool_drop_31 rfl (lv_at hl 1 rfl) ?_
    refine lv_dup hx hb dDecreePool_drop_32 rfl ?_
    refine va_get (D := D) (ci := 0) (v := .int ((put x 0 j 0 (nI 0)).1 12 0 1)) (C := RDecreePool) (T := TDecreePool) (N := 9) hx hb hts (fun w h => mc (uDecreePool_in w h)) hown hK hP 0 rfl rfl 8 (by decide) (hts _ (mc wd113)) (fun _ h9 => h9) rfl dDecreePool_drop_33 ?_
    refine lv_iconst (v := nI 1) hx hb dDecreePool_drop_36 (by decide) ?_
    refine lv_iadd hx hb dDecreePool_drop_37 ?_
    refine va_put (D := D) (ci := 0) (v := .int (((put x 0 j 0 (nI 0)).1 12 0 1) + (nI 1))) (ty := .int) (C := RDecreePool) (T := TDecreePool) (N := 9) hx hb hts (fun w h => mc (uDecreePool_in w h)) tyDecreePool tyDecreePool_ok nmDecreePool hown hK hP hD hS 0 rfl rfl 8 (by decide) (hts _ (mc wd113)) (fun _ h9 => h9) rfl (by decide +kernel) rfl rfl (Nat.le_of_ble_eq_true rfl) dDecreePool_drop_38 (fun H locs hP hD hS => ?_)
    have hP : va_P D vwCl (wX q cI n S P (sLost (put x 0 j 0 (nI 0)))) H := hP
    have hD : va_D A (wX q cI n S P (sLost (put x 0 j 0 (nI 0)))) := hD
    refine lv_iload_n hx hb dDecreePool_drop_41 rfl (lv_at hl 0 rfl) ?_
    exact W.iret (v := x.1 0 j 0) hx hb hr (fun t9 ht9 hW9 => ⟨⟨x.1 0 j 0, (wX q cI n S P (sLost (put x 0 j 0 (nI 0)))), rfl, fin2 (by unfold sDrop; rw [if_pos hisM, ix_nI hj (by omega)]), by rw [ht9]; exact hP, va_K.moved hW9.alike hK, hD⟩, hS.F ht9⟩) hS.2.2 dDecreePool_drop_42
  · have hP : va_P D vwCl (wX q cI n S P x) H := hP.sub [0, 14, 15, 1, 2, 3, 4, 5, 6, 7, 8, 9, 10, 11, 12, 13] rfl
    have hD : va_D A (wX q cI n S P x) := hD.sub [0, 14, 15, 1, 2, 3, 4, 5, 6, 7, 8, 9, 10, 11, 12, 13] (by decide) rfl
    refine lv_if_ne (tgt := 13) hx hb dDecreePool_drop_8 (by decide) (fun h9 => absurd (by decide) h9) (fun _ => ?_)
    refine lv_iconst (v := (-1)) hx hb dDecreePool_drop_11 (by decide) ?_
    exact W.iret (v := (-1)) hx hb hr (fun t9 ht9 hW9 => ⟨⟨(-1), (wX q cI n S P x), rfl, fin2 (if_neg h5), by rw [ht9]; exact hP, va_K.moved hW9.alike hK, hD⟩, hS.F ht9⟩) hS.2.2 dDecreePool_drop_12
theorem dDecreePool_duplicate_0 : decode cDecreePool_duplicate 0 = .ok (.aload_n 0, 1) := by decide +kernel
theorem dDecreePool_duplicate_1 : decode cDecreePool_duplicate 1 = .ok (.getfield 25, 3) := by decide +kernel
theorem dDecreePool_duplicate_4 : decode cDecreePool_duplicate 4 = .ok (.iload_n 1, 1) := by decide +kernel
theorem dDecreePool_duplicate_5 : decode cDecreePool_duplicate 5 = .ok (.invokevirtual 89, 3) := by decide +kernel
theorem dDecreePool_duplicate_8 : decode cDecreePool_duplicate 8 = .ok (.ifCond .ne 5, 3) := by decide +kernel
theorem dDecreePool_duplicate_11 : decode cDecreePool_duplicate 11 = .ok (.iconst (-1), 1) := by decide +kernel
theorem dDecreePool_duplicate_12 : decode cDecreePool_duplicate 12 = .ok (.ireturn, 1) := by decide +kernel
theorem dDecreePool_duplicate_13 : decode cDecreePool_duplicate 13 = .ok (.aload_n 0, 1) := by decide +kernel
theorem dDecreePool_duplicate_14 : decode cDecreePool_duplicate 14 = .ok (.getfield 25, 3) := by decide +kernel
theorem dDecreePool_duplicate_17 : decode cDecreePool_duplicate 17 = .ok (.iload_n 1, 1) := by decide +kernel
theorem dDecreePool_duplicate_18 : decode cDecreePool_duplicate 18 = .ok (.invokevirtual 107, 3) := by decide +kernel
theorem dDecreePool_duplicate_21 : decode cDecreePool_duplicate 21 = .ok (.istore_n 2, 1) := by decide +kernel
theorem dDecreePool_duplicate_22 : decode cDecreePool_duplicate 22 = .ok (.iload_n 2, 1) := by decide +kernel
theorem dDecreePool_duplicate_23 : decode cDecreePool_duplicate 23 = .ok (.iconst (-1), 1) := by decide +kernel
theorem dDecreePool_duplicate_24 : decode cDecreePool_duplicate 24 = .ok (.if_icmp .ne 8, 3) := by decide +kernel
theorem dDecreePool_duplicate_27 : decode cDecreePool_duplicate 27 = .ok (.bipush (-4), 2) := by decide +kernel
theorem dDecreePool_duplicate_29 : decode cDecreePool_duplicate 29 = .ok (.goto 4, 3) := by decide +kernel
theorem dDecreePool_duplicate_32 : decode cDecreePool_duplicate 32 = .ok (.iload_n 2, 1) := by decide +kernel
theorem dDecreePool_duplicate_33 : decode cDecreePool_duplicate 33 = .ok (.ireturn, 1) := by decide +kernel
set_option maxRecDepth 100000 in
set_option maxHeartbeats 4000000 in
theorem c_duplicate (l : Launch) (D : va_G) (cI cZ : ClassId) (q : Nat → Nat) (n : Nat) (S : Nat) (P : Nat) (x : St) (v : Int32) (hn1 : 1 ≤ n) (hn5 : n ≤ 5) (hS1 : 1 ≤ S) (hS4 : S ≤ 4) (hP5 : 5 ≤ P) (hP64 : P ≤ 64) : MI l D [(cI, .int), (cZ, .boolean)] yDecreePool_duplicate wsDecreePool_duplicate ({ frames := 4, cells := 0, slots := 0, locals := 93 }) [.ref (q 0), .int v] (wX q cI n S P x) (fun r w => r = (sDup P x v).1 ∧ w = (wX q cI n S P (sDup P x v).2)) := by
  intro sz
  refine Met.ofW (cc := cDecreePool_duplicate) (maxL := 3) (ret := (Option.some .int)) (by decide) rfl ?_
  intro p e s m args below meth c s₁ B hml hv
  obtain ⟨rfl, hsz, hP, hK, hD0, hZ⟩ := hv
  have hx := B.exec
  have hb := B.bytes
  have hr := B.returns
  have hts := atoms_spec (ws := wsDecreePool_duplicate) B.pre
  have hown : s.vm.findClass RDecreePool = some m.cls := findClass_of_methodNamed B.named
  have hlocks := B.notSynchronized
  subst hsz
  have hD := hD0.self (sz := s.heap.size)
  generalize hAe : va_A (wX q cI n S P x) s.heap.size = A at hD ⊢
  have hA : ∀ q : Nat, s.heap.size ≤ q → A q := fun q h => by rw [← hAe]; exact Or.inr h
  have hS : va_S A s.heap s.heap [] := va_S.rf
  have hP : va_P D vwCl (wX q cI n S P x) s.heap := hP
  have hl := lv_entry ([.ref (q 0), .int v]) (n := 3) (Nat.le_of_ble_eq_true rfl)
  rw [lg_entry_eq]
  generalize (lg_sl ([.ref (q 0), .int v]) ++ List.replicate (3 - (lg_sl ([.ref (q 0), .int v])).length) Slot.unset).toArray = ls at hl ⊢
  have hl : lv_has ls 3 [(0, .ref (q 0)), (1, .int v)] := hl
  refine lv_aload_n hx hb dDecreePool_duplicate_0 rfl (lv_at hl 0 rfl) ?_
  refine va_get (D := D) (ci := 0) (v := .ref (q 1)) (C := RDecreePool) (T := TDecreePool) (N := 9) hx hb hts (fun w h => mc (uDecreePool_in w h)) hown hK hP 0 rfl rfl 2 (by decide) (hts _ (mc wd107)) (fun _ h9 => h9) rfl dDecreePool_duplicate_1 ?_
  refine lv_iload_n hx hb dDecreePool_duplicate_4 rfl (lv_at hl 1 rfl) ?_
  have hPc := hP.sub (ws' := (wPo q cI P (x.1 0) (cntx P x))) [1, 2] rfl
  have hDc := hD.sub (ws' := (wPo q cI P (x.1 0) (cntx P x))) [1, 2] (by decide) rfl
  refine kx_i (va_runV (As := [.int v]) (rest := []) ⟨hx, hb, hml, hown, hts⟩ ((c_holds l D cI cZ q P (x.1 0) (cntx P x) v (hP64) (by omega)) s.heap.size) (cwV 1 hts (gV wd189 wd190 wd191 wd2 wd192) rfl rfl rfl (by decide +kernel) ⟨Nat.le_of_ble_eq_true rfl, Nat.le_of_ble_eq_true rfl⟩) ⟨fb_PW, va_recv (q0 := 0) (ci := 1) hK hPc rfl rfl, pre_PW hK hPc hDc hZ⟩ rfl rfl hl.1 rfl (lv_room (Nat.le_of_ble_eq_true rfl)) dDecreePool_duplicate_5 ⟨Nat.zero_le _, Nat.zero_le _⟩) hP hD hS hA [1, 2] [0, 3, 4, 5, 6, 7, 8, 9, 10, 11, 12, 13, 14, 15] rfl rfl (by decide) (by decide) (fun r w1 H locs hw hP hD hS => ?_)
  rcases hw with ⟨rfl, h5, rfl⟩ | ⟨rfl, h5, rfl⟩
  · have hP : va_P D vwCl (wX q cI n S P x) H := hP.sub [0, 14, 15, 1, 2, 3, 4, 5, 6, 7, 8, 9, 10, 11, 12, 13] rfl
    have hD : va_D A (wX q cI n S P x) := hD.sub [0, 14, 15, 1, 2, 3, 4, 5, 6, 7, 8, 9, 10, 11, 12, 13] (by decide) rfl
    obtain ⟨j, hj, rfl⟩ := okN_of (show P < 2 ^ 31 by omega) h5.1
    have hk0 : x.1 0 j 0 ≠ 0 := by have h6 := h5.2; rw [ix_nI hj (by omega)] at h6; exact h6
    have hisM : isM P x (nI j) := h5
    refine lv_if_ne (tgt := 13) hx hb dDecreePool_duplicate_8 (by decide) (fun _ => ?_) (fun h9 => absurd h9 (by decide))
    refine lv_aload_n hx hb dDecreePool_duplicate_13 rfl (lv_at hl 0 rfl) ?_
    refine va_get (D := D) (ci := 0) (v := .ref (q 1)) (C := RDecreePool) (T := TDecreePool) (N := 9) hx hb hts (fun w h => mc (uDecreePool_in w h)) hown hK hP 0 rfl rfl 2 (by decide) (hts _ (mc wd107)) (fun _ h9 => h9) rfl dDecreePool_duplicate_14 ?_
    refine lv_iload_n hx hb dDecreePool_duplicate_17 rfl (lv_at hl 1 rfl) ?_
    have hPc := hP.sub (ws' := (wPo q cI P (x.1 0) (cntx P x))) [1, 2] rfl
    have hDc := hD.sub (ws' := (wPo q cI P (x.1 0) (cntx P x))) [1, 2] (by decide) rfl
    refine kx_i (va_runV (As := [.int (nI j)]) (rest := []) ⟨hx, hb, hml, hown, hts⟩ ((c_sendCopy l D cI cZ q P (x.1 0) (cntx P x) j (hP64) (hj)) H.size) (cwV 1 hts (gV wd299 wd300 wd301 wd2 wd302) rfl rfl rfl (by decide +kernel) ⟨Nat.le_of_ble_eq_true rfl, Nat.le_of_ble_eq_true rfl⟩) ⟨fb_PW, va_recv (q0 := 0) (ci := 1) hK hPc rfl rfl, pre_PW hK hPc hDc hZ⟩ rfl rfl hl.1 rfl (lv_room (Nat.le_of_ble_eq_true rfl)) dDecreePool_duplicate_18 ⟨Nat.zero_le _, Nat.zero_le _⟩) hP hD hS hA [1, 2] [0, 3, 4, 5, 6, 7, 8, 9, 10, 11, 12, 13, 14, 15] rfl rfl (by decide) (by decide) (fun r w1 H locs hw hP hD hS => ?_)
    rcases hw with ⟨rfl, h18, rfl⟩ | ⟨rfl, h18, rfl⟩
    · have hP : va_P D vwCl (wD q cI n S P (n * S) (nI (msk (col (x.1 13) 0) n)) (x.1 12 0 0) (x.1 12 0 1) (up7 (x.1 0) (lst (col (x.1 0) 0) P 0) ((x.1 0) j 0) ((x.1 0) j 1) ((x.1 0) j 2) ((x.1 0) j 3) ((x.1 0) j 4) ((x.1 0) j 5) ((x.1 0) j 6)) ((cntx P x) + 1) (sq S (x.1 1)) (sq S (x.1 2)) (sq S (x.1 3)) (sq S (x.1 4)) (sq S (x.1 5)) (sq S (x.1 8)) (sq S (x.1 9)) (sq S (x.1 10)) (hq n S (x.2 0)) (sq S (x.1 11))) H := hP.sub [0, 14, 15, 1, 2, 3, 4, 5, 6, 7, 8, 9, 10, 11, 12, 13] rfl
      have hD : va_D A (wD q cI n S P (n * S) (nI (msk (col (x.1 13) 0) n)) (x.1 12 0 0) (x.1 12 0 1) (up7 (x.1 0) (lst (col (x.1 0) 0) P 0) ((x.1 0) j 0) ((x.1 0) j 1) ((x.1 0) j 2) ((x.1 0) j 3) ((x.1 0) j 4) ((x.1 0) j 5) ((x.1 0) j 6)) ((cntx P x) + 1) (sq S (x.1 1)) (sq S (x.1 2)) (sq S (x.1 3)) (sq S (x.1 4)) (sq S (x.1 5)) (sq S (x.1 8)) (sq S (x.1 9)) (sq S (x.1 10)) (hq n S (x.2 0)) (sq S (x.1 11))) := hD.sub [0, 14, 15, 1, 2, 3, 4, 5, 6, 7, 8, 9, 10, 11, 12, 13] (by decide) rfl
      have hlt : cntx P x < P := by
        have h7 := cnt_le (col (x.1 0) 0) P
        by_cases e9 : cnt (col (x.1 0) 0) P = P
        · have := lst_full e9
          omega
        · show cnt (col (x.1 0) 0) P < P
          omega
      refine lv_istore_n hx hb dDecreePool_duplicate_21 rfl hl (by decide) rfl (fun ls hl => ?_)
      have hl : lv_has ls 3 [(2, .int (nI (lst (col (x.1 0) 0) P 0))), (0, .ref (q 0)), (1, .int (nI j))] := hl
      refine lv_iload_n hx hb dDecreePool_duplicate_22 rfl (lv_at hl 0 rfl) ?_
      refine lv_iconst (v := (-1)) hx hb dDecreePool_duplicate_23 (by decide) ?_
      refine lv_icmp_ne (tgt := 32) hx hb dDecreePool_duplicate_24 (by decide) (fun _ => ?_) (fun h9 => absurd h9 (nI_nm1 (by omega)))
      have hW1 : (wD q cI n S P (n * S) (nI (msk (col (x.1 13) 0) n)) (x.1 12 0 0) (x.1 12 0 1) (up7 (x.1 0) (lst (col (x.1 0) 0) P 0) ((x.1 0) j 0) ((x.1 0) j 1) ((x.1 0) j 2) ((x.1 0) j 3) ((x.1 0) j 4) ((x.1 0) j 5) ((x.1 0) j 6)) ((cntx P x) + 1) (sq S (x.1 1)) (sq S (x.1 2)) (sq S (x.1 3)) (sq S (x.1 4)) (sq S (x.1 5)) (sq S (x.1 8)) (sq S (x.1 9)) (sq S (x.1 10)) (hq n S (x.2 0)) (sq S (x.1 11))) = (wX q cI n S P (send1 P x (x.1 0 j 0) (x.1 0 j 1) (x.1 0 j 2) (x.1 0 j 3) (x.1 0 j 4) (x.1 0 j 5) (x.1 0 j 6))) := wX_send (y := x) hk0 hlt
      rw [hW1] at hP hD
      refine lv_iload_n hx hb dDecreePool_duplicate_32 rfl (lv_at hl 0 rfl) ?_
      exact W.iret (v := nI (lst (col (x.1 0) 0) P 0)) hx hb hr (fun t9 ht9 hW9 => ⟨⟨nI (lst (col (x.1 0) 0) P 0), (wX q cI n S P (send1 P x (x.1 0 j 0) (x.1 0 j 1) (x.1 0 j 2) (x.1 0 j 3) (x.1 0 j 4) (x.1 0 j 5) (x.1 0 j 6))), rfl, fin2 (by unfold sDup; rw [if_pos hisM, if_neg (Nat.ne_of_lt hlt), ix_nI hj (by omega)]; try rfl), by rw [ht9]; exact hP, va_K.moved hW9.alike hK, hD⟩, hS.F ht9⟩) hS.2.2 dDecreePool_duplicate_33
    · have hP : va_P D vwCl (wX q cI n S P x) H := hP.sub [0, 14, 15, 1, 2, 3, 4, 5, 6, 7, 8, 9, 10, 11, 12, 13] rfl
      have hD : va_D A (wX q cI n S P x) := hD.sub [0, 14, 15, 1, 2, 3, 4, 5, 6, 7, 8, 9, 10, 11, 12, 13] (by decide) rfl
      have hfull : cntx P x = P := by
        have h7 := cnt_le (col (x.1 0) 0) P
        by_cases e9 : cnt (col (x.1 0) 0) P < P
        · have := lst_lt e9
          omega
        · show cnt (col (x.1 0) 0) P = P
          omega
      refine lv_istore_n hx hb dDecreePool_duplicate_21 rfl hl (by decide) rfl (fun ls hl => ?_)
      have hl : lv_has ls 3 [(2, .int (-1)), (0, .ref (q 0)), (1, .int (nI j))] := hl
      refine lv_iload_n hx hb dDecreePool_duplicate_22 rfl (lv_at hl 0 rfl) ?_
      refine lv_iconst (v := (-1)) hx hb dDecreePool_duplicate_23 (by decide) ?_
      refine lv_icmp_ne (tgt := 32) hx hb dDecreePool_duplicate_24 (by decide) (fun h9 => absurd (by decide) h9) (fun _ => ?_)
      refine lv_bipush (v := (-4)) hx hb dDecreePool_duplicate_27 (by decide) ?_
      refine lv_goto (tgt := 33) hx hb dDecreePool_duplicate_29 (by decide) ?_
      exact W.iret (v := (-4)) hx hb hr (fun t9 ht9 hW9 => ⟨⟨(-4), (wX q cI n S P x), rfl, fin2 (by unfold sDup; rw [if_pos hisM, if_pos hfull]), by rw [ht9]; exact hP, va_K.moved hW9.alike hK, hD⟩, hS.F ht9⟩) hS.2.2 dDecreePool_duplicate_33
  · have hP : va_P D vwCl (wX q cI n S P x) H := hP.sub [0, 14, 15, 1, 2, 3, 4, 5, 6, 7, 8, 9, 10, 11, 12, 13] rfl
    have hD : va_D A (wX q cI n S P x) := hD.sub [0, 14, 15, 1, 2, 3, 4, 5, 6, 7, 8, 9, 10, 11, 12, 13] (by decide) rfl
    refine lv_if_ne (tgt := 13) hx hb dDecreePool_duplicate_8 (by decide) (fun h9 => absurd (by decide) h9) (fun _ => ?_)
    refine lv_iconst (v := (-1)) hx hb dDecreePool_duplicate_11 (by decide) ?_
    exact W.iret (v := (-1)) hx hb hr (fun t9 ht9 hW9 => ⟨⟨(-1), (wX q cI n S P x), rfl, fin2 (if_neg h5), by rw [ht9]; exact hP, va_K.moved hW9.alike hK, hD⟩, hS.F ht9⟩) hS.2.2 dDecreePool_duplicate_12
theorem dDecreePool_crash_0 : decode cDecreePool_crash 0 = .ok (.aload_n 0, 1) := by decide +kernel
theorem dDecreePool_crash_1 : decode cDecreePool_crash 1 = .ok (.iload_n 1, 1) := by decide +kernel
theorem dDecreePool_crash_2 : decode cDecreePool_crash 2 = .ok (.invokevirtual 110, 3) := by decide +kernel
theorem dDecreePool_crash_5 : decode cDecreePool_crash 5 = .ok (.ifCond .eq 11, 3) := by decide +kernel
theorem dDecreePool_crash_8 : decode cDecreePool_crash 8 = .ok (.aload_n 0, 1) := by decide +kernel
theorem dDecreePool_crash_9 : decode cDecreePool_crash 9 = .ok (.iload_n 1, 1) := by decide +kernel
theorem dDecreePool_crash_10 : decode cDecreePool_crash 10 = .ok (.invokevirtual 65, 3) := by decide +kernel
theorem dDecreePool_crash_13 : decode cDecreePool_crash 13 = .ok (.ifCond .ne 5, 3) := by decide +kernel
theorem dDecreePool_crash_16 : decode cDecreePool_crash 16 = .ok (.iconst (-1), 1) := by decide +kernel
theorem dDecreePool_crash_17 : decode cDecreePool_crash 17 = .ok (.ireturn, 1) := by decide +kernel
theorem dDecreePool_crash_18 : decode cDecreePool_crash 18 = .ok (.aload_n 0, 1) := by decide +kernel
theorem dDecreePool_crash_19 : decode cDecreePool_crash 19 = .ok (.dup, 1) := by decide +kernel
theorem dDecreePool_crash_20 : decode cDecreePool_crash 20 = .ok (.getfield 52, 3) := by decide +kernel
theorem dDecreePool_crash_23 : decode cDecreePool_crash 23 = .ok (.iconst 1, 1) := by decide +kernel
theorem dDecreePool_crash_24 : decode cDecreePool_crash 24 = .ok (.iload_n 1, 1) := by decide +kernel
theorem dDecreePool_crash_25 : decode cDecreePool_crash 25 = .ok (.ishl, 1) := by decide +kernel
theorem dDecreePool_crash_26 : decode cDecreePool_crash 26 = .ok (.iconst (-1), 1) := by decide +kernel
theorem dDecreePool_crash_27 : decode cDecreePool_crash 27 = .ok (.ixor, 1) := by decide +kernel
theorem dDecreePool_crash_28 : decode cDecreePool_crash 28 = .ok (.iand, 1) := by decide +kernel
theorem dDecreePool_crash_29 : decode cDecreePool_crash 29 = .ok (.putfield 52, 3) := by decide +kernel
theorem dDecreePool_crash_32 : decode cDecreePool_crash 32 = .ok (.aload_n 0, 1) := by decide +kernel
theorem dDecreePool_crash_33 : decode cDecreePool_crash 33 = .ok (.getfield 52, 3) := by decide +kernel
theorem dDecreePool_crash_36 : decode cDecreePool_crash 36 = .ok (.invokestatic 113, 3) := by decide +kernel
theorem dDecreePool_crash_39 : decode cDecreePool_crash 39 = .ok (.ireturn, 1) := by decide +kernel
set_option maxRecDepth 100000 in
set_option maxHeartbeats 4000000 in
theorem c_crash (l : Launch) (D : va_G) (cI cZ : ClassId) (q : Nat → Nat) (n : Nat) (S : Nat) (P : Nat) (x : St) (v : Int32) (hn1 : 1 ≤ n) (hn5 : n ≤ 5) (hS1 : 1 ≤ S) (hS4 : S ≤ 4) (hP5 : 5 ≤ P) (hP64 : P ≤ 64) : MI l D [(cI, .int), (cZ, .boolean)] yDecreePool_crash wsDecreePool_crash ({ frames := 2, cells := 0, slots := 0, locals := 43 }) [.ref (q 0), .int v] (wX q cI n S P x) (fun r w => r = (sCrash n x v).1 ∧ w = (wX q cI n S P (sCrash n x v).2)) := by
  intro sz
  refine Met.ofW (cc := cDecreePool_crash) (maxL := 2) (ret := (Option.some .int)) (by decide) rfl ?_
  intro p e s m args below meth c s₁ B hml hv
  obtain ⟨rfl, hsz, hP, hK, hD0, hZ⟩ := hv
  have hx := B.exec
  have hb := B.bytes
  have hr := B.returns
  have hts := atoms_spec (ws := wsDecreePool_crash) B.pre
  have hown : s.vm.findClass RDecreePool = some m.cls := findClass_of_methodNamed B.named
  have hlocks := B.notSynchronized
  subst hsz
  have hD := hD0.self (sz := s.heap.size)
  generalize hAe : va_A (wX q cI n S P x) s.heap.size = A at hD ⊢
  have hA : ∀ q : Nat, s.heap.size ≤ q → A q := fun q h => by rw [← hAe]; exact Or.inr h
  have hS : va_S A s.heap s.heap [] := va_S.rf
  have hP : va_P D vwCl (wX q cI n S P x) s.heap := hP
  have hl := lv_entry ([.ref (q 0), .int v]) (n := 2) (Nat.le_of_ble_eq_true rfl)
  rw [lg_entry_eq]
  generalize (lg_sl ([.ref (q 0), .int v]) ++ List.replicate (2 - (lg_sl ([.ref (q 0), .int v])).length) Slot.unset).toArray = ls at hl ⊢
  have hl : lv_has ls 2 [(0, .ref (q 0)), (1, .int v)] := hl
  refine lv_aload_n hx hb dDecreePool_crash_0 rfl (lv_at hl 0 rfl) ?_
  refine lv_iload_n hx hb dDecreePool_crash_1 rfl (lv_at hl 1 rfl) ?_
  have hPc := hP.sub (ws' := (wX q cI n S P x)) [0, 1, 2, 3, 4, 5, 6, 7, 8, 9, 10, 11, 12, 13, 14, 15] rfl
  have hDc := hD.sub (ws' := (wX q cI n S P x)) [0, 1, 2, 3, 4, 5, 6, 7, 8, 9, 10, 11, 12, 13, 14, 15] (by decide) rfl
  refine kx_i (va_runV (As := [.int v]) (rest := []) ⟨hx, hb, hml, hown, hts⟩ ((c_hasNode l D cI cZ q n S P x v (hn1) (hn5) (hS1) (hS4) (hP5) (hP64)) s.heap.size) (cwV 1 hts (gV wd141 wd143 sl_DecreePool_hasNode wd1 wd144) rfl rfl rfl (by decide +kernel) ⟨Nat.le_of_ble_eq_true rfl, Nat.le_of_ble_eq_true rfl⟩) ⟨fb_PW, va_recv (q0 := 0) (ci := 0) hK hPc rfl rfl, pre_PW hK hPc hDc hZ⟩ rfl rfl hl.1 rfl (lv_room (Nat.le_of_ble_eq_true rfl)) dDecreePool_crash_2 ⟨Nat.zero_le _, Nat.zero_le _⟩) hP hD hS hA [0, 1, 2, 3, 4, 5, 6, 7, 8, 9, 10, 11, 12, 13, 14, 15] [] rfl rfl (by decide) (by decide) (fun r w1 H locs hw hP hD hS => ?_)
  rcases hw with ⟨rfl, h2, rfl⟩ | ⟨rfl, h2, rfl⟩
  · have hP : va_P D vwCl (wX q cI n S P x) H := hP
    have hD : va_D A (wX q cI n S P x) := hD
    obtain ⟨a, ha, rfl⟩ := okN_of (show n < 2 ^ 31 by omega) h2
    refine lv_if_eq (tgt := 16) hx hb dDecreePool_crash_5 (by decide) (fun h9 => absurd h9 (by decide)) (fun _ => ?_)
    refine lv_aload_n hx hb dDecreePool_crash_8 rfl (lv_at hl 0 rfl) ?_
    refine lv_iload_n hx hb dDecreePool_crash_9 rfl (lv_at hl 1 rfl) ?_
    have hPc := hP.sub (ws' := (wX q cI n S P x)) [0, 1, 2, 3, 4, 5, 6, 7, 8, 9, 10, 11, 12, 13, 14, 15] rfl
    have hDc := hD.sub (ws' := (wX q cI n S P x)) [0, 1, 2, 3, 4, 5, 6, 7, 8, 9, 10, 11, 12, 13, 14, 15] (by decide) rfl
    refine kx_i (va_runV (As := [.int (nI a)]) (rest := []) ⟨hx, hb, hml, hown, hts⟩ ((c_isUp l D cI cZ q n S P x a (hn1) (hn5) (hS1) (hS4) (hP5) (hP64) (by omega)) H.size) (cwV 1 hts (gV wd149 wd151 sl_DecreePool_isUp wd1 wd152) rfl rfl rfl (by decide +kernel) ⟨Nat.le_of_ble_eq_true rfl, Nat.le_of_ble_eq_true rfl⟩) ⟨fb_PW, va_recv (q0 := 0) (ci := 0) hK hPc rfl rfl, pre_PW hK hPc hDc hZ⟩ rfl rfl hl.1 rfl (lv_room (Nat.le_of_ble_eq_true rfl)) dDecreePool_crash_10 ⟨Nat.zero_le _, Nat.zero_le _⟩) hP hD hS hA [0, 1, 2, 3, 4, 5, 6, 7, 8, 9, 10, 11, 12, 13, 14, 15] [] rfl rfl (by decide) (by decide) (fun r w1 H locs hw hP hD hS => ?_)
    rcases hw with ⟨rfl, h10, rfl⟩ | ⟨rfl, h10, rfl⟩
    · have hP : va_P D vwCl (wX q cI n S P x) H := hP
      have hD : va_D A (wX q cI n S P x) := hD
      refine lv_if_ne (tgt := 18) hx hb dDecreePool_crash_13 (by decide) (fun _ => ?_) (fun h9 => absurd h9 (by decide))
      refine lv_aload_n hx hb dDecreePool_crash_18 rfl (lv_at hl 0 rfl) ?_
      refine lv_dup hx hb dDecreePool_crash_19 rfl ?_
      refine va_get (D := D) (ci := 0) (v := .int (nI (msk (col (x.1 13) 0) n))) (C := RDecreePool) (T := TDecreePool) (N := 9) hx hb hts (fun w h => mc (uDecreePool_in w h)) hown hK hP 0 rfl rfl 6 (by decide) (hts _ (mc wd111)) (fun _ h9 => h9) rfl dDecreePool_crash_20 ?_
      refine lv_iconst (v := nI 1) hx hb dDecreePool_crash_23 (by decide) ?_
      refine lv_iload_n hx hb dDecreePool_crash_24 rfl (lv_at hl 1 rfl) ?_
      refine lv_ishl hx hb dDecreePool_crash_25 ?_
      refine lv_iconst (v := (-1)) hx hb dDecreePool_crash_26 (by decide) ?_
      refine lv_ixor hx hb dDecreePool_crash_27 ?_
      refine lv_iand hx hb dDecreePool_crash_28 ?_
      refine lv_topi (nm_r ((crash_val (v := nI 1) ha hn5 (by decide) h10).trans (by rw [col_up])) ?_)
      refine va_put (D := D) (ci := 0) (v := .int (nI (msk (col (up2 (x.1 13) a 0 (nI 1)) 0) n))) (ty := .int) (C := RDecreePool) (T := TDecreePool) (N := 9) hx hb hts (fun w h => mc (uDecreePool_in w h)) tyDecreePool tyDecreePool_ok nmDecreePool hown hK hP hD hS 0 rfl rfl 6 (by decide) (hts _ (mc wd111)) (fun _ h9 => h9) rfl (by decide +kernel) rfl rfl (Nat.le_of_ble_eq_true rfl) dDecreePool_crash_29 (fun H locs hP hD hS => ?_)
      have hP : va_P D vwCl (wX q cI n S P (put x 13 a 0 (nI 1))) H := hP
      have hD : va_D A (wX q cI n S P (put x 13 a 0 (nI 1))) := hD
      refine lv_aload_n hx hb dDecreePool_crash_32 rfl (lv_at hl 0 rfl) ?_
      refine va_get (D := D) (ci := 0) (v := .int (nI (msk (col ((put x 13 a 0 (nI 1)).1 13) 0) n))) (C := RDecreePool) (T := TDecreePool) (N := 9) hx hb hts (fun w h => mc (uDecreePool_in w h)) hown hK hP 0 rfl rfl 6 (by decide) (hts _ (mc wd111)) (fun _ h9 => h9) rfl dDecreePool_crash_33 ?_
      have hPc := hP.sub (ws' := ([] : va_W)) [] rfl
      have hDc := hD.sub (ws' := ([] : va_W)) [] (by decide) rfl
      refine kx_i (va_runS (As := [.int (nI (msk (col ((put x 13 a 0 (nI 1)).1 13) 0) n))]) (rest := []) ⟨hx, hb, hml, hown, hts⟩ ((c_bitCount l D cI cZ (msk (col ((put x 13 a 0 (nI 1)).1 13) 0) n) (msk_32 _ hn5)) H.size) (va_cwS 1 hts (gS wd308 wd212 wd8 wd213) rfl rfl rfl (by decide +kernel) ⟨Nat.le_of_ble_eq_true rfl, Nat.le_of_ble_eq_true rfl⟩) ⟨fb_PW, pre_PW hK hPc hDc hZ⟩ rfl rfl hl.1 rfl (lv_room (Nat.le_of_ble_eq_true rfl)) dDecreePool_crash_36 ⟨Nat.zero_le _, Nat.zero_le _⟩) hP hD hS hA [] [0, 1, 2, 3, 4, 5, 6, 7, 8, 9, 10, 11, 12, 13, 14, 15] rfl rfl (by decide) (by decide) (fun r w1 H locs hw hP hD hS => ?_)
      obtain ⟨rfl, rfl⟩ := hw
      have hP : va_P D vwCl (wX q cI n S P (put x 13 a 0 (nI 1))) H := hP
      have hD : va_D A (wX q cI n S P (put x 13 a 0 (nI 1))) := hD
      have hres : sCrash n x (nI a) = (nI (popn (msk (col ((put x 13 a 0 (nI 1)).1 13) 0) n)), put x 13 a 0 (nI 1)) := by
        rw [pop_msk hn5]
        unfold sCrash
        rw [if_pos ⟨h2, by rw [ix_nI ha (by omega)]; exact h10⟩, ix_nI ha (by omega)]
        try rfl
      exact W.iret (v := nI (popn (msk (col ((put x 13 a 0 (nI 1)).1 13) 0) n))) hx hb hr (fun t9 ht9 hW9 => ⟨⟨nI (popn (msk (col ((put x 13 a 0 (nI 1)).1 13) 0) n)), (wX q cI n S P (put x 13 a 0 (nI 1))), rfl, fin2 hres, by rw [ht9]; exact hP, va_K.moved hW9.alike hK, hD⟩, hS.F ht9⟩) hS.2.2 dDecreePool_crash_39
    · have hP : va_P D vwCl (wX q cI n S P x) H := hP
      have hD : va_D A (wX q cI n S P x) := hD
      refine lv_if_ne (tgt := 18) hx hb dDecreePool_crash_13 (by decide) (fun h9 => absurd (by decide) h9) (fun _ => ?_)
      refine lv_iconst (v := (-1)) hx hb dDecreePool_crash_16 (by decide) ?_
      exact W.iret (v := (-1)) hx hb hr (fun t9 ht9 hW9 => ⟨⟨(-1), (wX q cI n S P x), rfl, fin2 (if_neg (fun h => h10 (by have h7 := h.2; rw [ix_nI ha (by omega)] at h7; exact h7))), by rw [ht9]; exact hP, va_K.moved hW9.alike hK, hD⟩, hS.F ht9⟩) hS.2.2 dDecreePool_crash_17
  · have hP : va_P D vwCl (wX q cI n S P x) H := hP
    have hD : va_D A (wX q cI n S P x) := hD
    refine lv_if_eq (tgt := 16) hx hb dDecreePool_crash_5 (by decide) (fun _ => ?_) (fun h9 => absurd (by decide) h9)
    refine lv_iconst (v := (-1)) hx hb dDecreePool_crash_16 (by decide) ?_
    exact W.iret (v := (-1)) hx hb hr (fun t9 ht9 hW9 => ⟨⟨(-1), (wX q cI n S P x), rfl, fin2 (if_neg (fun h => h2 h.1)), by rw [ht9]; exact hP, va_K.moved hW9.alike hK, hD⟩, hS.F ht9⟩) hS.2.2 dDecreePool_crash_17
theorem dDecreePool_restart_0 : decode cDecreePool_restart 0 = .ok (.aload_n 0, 1) := by decide +kernel
theorem dDecreePool_restart_1 : decode cDecreePool_restart 1 = .ok (.iload_n 1, 1) := by decide +kernel
theorem dDecreePool_restart_2 : decode cDecreePool_restart 2 = .ok (.invokevirtual 110, 3) := by decide +kernel
theorem dDecreePool_restart_5 : decode cDecreePool_restart 5 = .ok (.ifCond .eq 11, 3) := by decide +kernel
theorem dDecreePool_restart_8 : decode cDecreePool_restart 8 = .ok (.aload_n 0, 1) := by decide +kernel
theorem dDecreePool_restart_9 : decode cDecreePool_restart 9 = .ok (.iload_n 1, 1) := by decide +kernel
theorem dDecreePool_restart_10 : decode cDecreePool_restart 10 = .ok (.invokevirtual 65, 3) := by decide +kernel
theorem dDecreePool_restart_13 : decode cDecreePool_restart 13 = .ok (.ifCond .eq 5, 3) := by decide +kernel
theorem dDecreePool_restart_16 : decode cDecreePool_restart 16 = .ok (.iconst (-1), 1) := by decide +kernel
theorem dDecreePool_restart_17 : decode cDecreePool_restart 17 = .ok (.ireturn, 1) := by decide +kernel
theorem dDecreePool_restart_18 : decode cDecreePool_restart 18 = .ok (.aload_n 0, 1) := by decide +kernel
theorem dDecreePool_restart_19 : decode cDecreePool_restart 19 = .ok (.dup, 1) := by decide +kernel
theorem dDecreePool_restart_20 : decode cDecreePool_restart 20 = .ok (.getfield 52, 3) := by decide +kernel
theorem dDecreePool_restart_23 : decode cDecreePool_restart 23 = .ok (.iconst 1, 1) := by decide +kernel
theorem dDecreePool_restart_24 : decode cDecreePool_restart 24 = .ok (.iload_n 1, 1) := by decide +kernel
theorem dDecreePool_restart_25 : decode cDecreePool_restart 25 = .ok (.ishl, 1) := by decide +kernel
theorem dDecreePool_restart_26 : decode cDecreePool_restart 26 = .ok (.ior, 1) := by decide +kernel
theorem dDecreePool_restart_27 : decode cDecreePool_restart 27 = .ok (.putfield 52, 3) := by decide +kernel
theorem dDecreePool_restart_30 : decode cDecreePool_restart 30 = .ok (.iconst 0, 1) := by decide +kernel
theorem dDecreePool_restart_31 : decode cDecreePool_restart 31 = .ok (.istore_n 2, 1) := by decide +kernel
theorem dDecreePool_restart_32 : decode cDecreePool_restart 32 = .ok (.iload_n 2, 1) := by decide +kernel
theorem dDecreePool_restart_33 : decode cDecreePool_restart 33 = .ok (.aload_n 0, 1) := by decide +kernel
theorem dDecreePool_restart_34 : decode cDecreePool_restart 34 = .ok (.getfield 17, 3) := by decide +kernel
theorem dDecreePool_restart_37 : decode cDecreePool_restart 37 = .ok (.if_icmp .ge 32, 3) := by decide +kernel
theorem dDecreePool_restart_40 : decode cDecreePool_restart 40 = .ok (.aload_n 0, 1) := by decide +kernel
theorem dDecreePool_restart_41 : decode cDecreePool_restart 41 = .ok (.iload_n 1, 1) := by decide +kernel
theorem dDecreePool_restart_42 : decode cDecreePool_restart 42 = .ok (.iload_n 2, 1) := by decide +kernel
theorem dDecreePool_restart_43 : decode cDecreePool_restart 43 = .ok (.invokevirtual 69, 3) := by decide +kernel
theorem dDecreePool_restart_46 : decode cDecreePool_restart 46 = .ok (.istore_n 3, 1) := by decide +kernel
theorem dDecreePool_restart_47 : decode cDecreePool_restart 47 = .ok (.aload_n 0, 1) := by decide +kernel
theorem dDecreePool_restart_48 : decode cDecreePool_restart 48 = .ok (.getfield 34, 3) := by decide +kernel
theorem dDecreePool_restart_51 : decode cDecreePool_restart 51 = .ok (.iload_n 3, 1) := by decide +kernel
theorem dDecreePool_restart_52 : decode cDecreePool_restart 52 = .ok (.invokevirtual 118, 3) := by decide +kernel
theorem dDecreePool_restart_55 : decode cDecreePool_restart 55 = .ok (.aload_n 0, 1) := by decide +kernel
theorem dDecreePool_restart_56 : decode cDecreePool_restart 56 = .ok (.getfield 48, 3) := by decide +kernel
theorem dDecreePool_restart_59 : decode cDecreePool_restart 59 = .ok (.iload_n 3, 1) := by decide +kernel
theorem dDecreePool_restart_60 : decode cDecreePool_restart 60 = .ok (.invokevirtual 121, 3) := by decide +kernel
theorem dDecreePool_restart_63 : decode cDecreePool_restart 63 = .ok (.iinc 2  1, 3) := by decide +kernel
theorem dDecreePool_restart_66 : decode cDecreePool_restart 66 = .ok (.goto (-34), 3) := by decide +kernel
theorem dDecreePool_restart_69 : decode cDecreePool_restart 69 = .ok (.aload_n 0, 1) := by decide +kernel
theorem dDecreePool_restart_70 : decode cDecreePool_restart 70 = .ok (.getfield 52, 3) := by decide +kernel
theorem dDecreePool_restart_73 : decode cDecreePool_restart 73 = .ok (.invokestatic 113, 3) := by decide +kernel
theorem dDecreePool_restart_76 : decode cDecreePool_restart 76 = .ok (.ireturn, 1) := by decide +kernel
set_option maxRecDepth 100000 in
set_option maxHeartbeats 4000000 in
theorem c_restart (l : Launch) (D : va_G) (cI cZ : ClassId) (q : Nat → Nat) (n : Nat) (S : Nat) (P : Nat) (x : St) (v : Int32) (hn1 : 1 ≤ n) (hn5 : n ≤ 5) (hS1 : 1 ≤ S) (hS4 : S ≤ 4) (hP5 : 5 ≤ P) (hP64 : P ≤ 64) : MI l D [(cI, .int), (cZ, .boolean)] yDecreePool_restart wsDecreePool_restart ({ frames := 2, cells := 0, slots := 0, locals := 43 }) [.ref (q 0), .int v] (wX q cI n S P x) (fun r w => r = (sRest n x v).1 ∧ w = (wX q cI n S P (sRest n x v).2)) := by
  intro sz
  refine Met.ofW (cc := cDecreePool_restart) (maxL := 4) (ret := (Option.some .int)) (by decide) rfl ?_
  intro p e s m args below meth c s₁ B hml hv
  obtain ⟨rfl, hsz, hP, hK, hD0, hZ⟩ := hv
  have hx := B.exec
  have hb := B.bytes
  have hr := B.returns
  have hts := atoms_spec (ws := wsDecreePool_restart) B.pre
  have hown : s.vm.findClass RDecreePool = some m.cls := findClass_of_methodNamed B.named
  have hlocks := B.notSynchronized
  subst hsz
  have hD := hD0.self (sz := s.heap.size)
  generalize hAe : va_A (wX q cI n S P x) s.heap.size = A at hD ⊢
  have hA : ∀ q : Nat, s.heap.size ≤ q → A q := fun q h => by rw [← hAe]; exact Or.inr h
  have hS : va_S A s.heap s.heap [] := va_S.rf
  have hP : va_P D vwCl (wX q cI n S P x) s.heap := hP
  have hl := lv_entry ([.ref (q 0), .int v]) (n := 4) (Nat.le_of_ble_eq_true rfl)
  rw [lg_entry_eq]
  generalize (lg_sl ([.ref (q 0), .int v]) ++ List.replicate (4 - (lg_sl ([.ref (q 0), .int v])).length) Slot.unset).toArray = ls at hl ⊢
  have hl : lv_has ls 4 [(0, .ref (q 0)), (1, .int v)] := hl
  refine lv_aload_n hx hb dDecreePool_restart_0 rfl (lv_at hl 0 rfl) ?_
  refine lv_iload_n hx hb dDecreePool_restart_1 rfl (lv_at hl 1 rfl) ?_
  have hPc := hP.sub (ws' := (wX q cI n S P x)) [0, 1, 2, 3, 4, 5, 6, 7, 8, 9, 10, 11, 12, 13, 14, 15] rfl
  have hDc := hD.sub (ws' := (wX q cI n S P x)) [0, 1, 2, 3, 4, 5, 6, 7, 8, 9, 10, 11, 12, 13, 14, 15] (by decide) rfl
  refine kx_i (va_runV (As := [.int v]) (rest := []) ⟨hx, hb, hml, hown, hts⟩ ((c_hasNode l D cI cZ q n S P x v (hn1) (hn5) (hS1) (hS4) (hP5) (hP64)) s.heap.size) (cwV 1 hts (gV wd141 wd143 sl_DecreePool_hasNode wd1 wd144) rfl rfl rfl (by decide +kernel) ⟨Nat.le_of_ble_eq_true rfl, Nat.le_of_ble_eq_true rfl⟩) ⟨fb_PW, va_recv (q0 := 0) (ci := 0) hK hPc rfl rfl, pre_PW hK hPc hDc hZ⟩ rfl rfl hl.1 rfl (lv_room (Nat.le_of_ble_eq_true rfl)) dDecreePool_restart_2 ⟨Nat.zero_le _, Nat.zero_le _⟩) hP hD hS hA [0, 1, 2, 3, 4, 5, 6, 7, 8, 9, 10, 11, 12, 13, 14, 15] [] rfl rfl (by decide) (by decide) (fun r w1 H locs hw hP hD hS => ?_)
  rcases hw with ⟨rfl, h2, rfl⟩ | ⟨rfl, h2, rfl⟩
  · have hP : va_P D vwCl (wX q cI n S P x) H := hP
    have hD : va_D A (wX q cI n S P x) := hD
    obtain ⟨a, ha, rfl⟩ := okN_of (show n < 2 ^ 31 by omega) h2
    refine lv_if_eq (tgt := 16) hx hb dDecreePool_restart_5 (by decide) (fun h9 => absurd h9 (by decide)) (fun _ => ?_)
    refine lv_aload_n hx hb dDecreePool_restart_8 rfl (lv_at hl 0 rfl) ?_
    refine lv_iload_n hx hb dDecreePool_restart_9 rfl (lv_at hl 1 rfl) ?_
    have hPc := hP.sub (ws' := (wX q cI n S P x)) [0, 1, 2, 3, 4, 5, 6, 7, 8, 9, 10, 11, 12, 13, 14, 15] rfl
    have hDc := hD.sub (ws' := (wX q cI n S P x)) [0, 1, 2, 3, 4, 5, 6, 7, 8, 9, 10, 11, 12, 13, 14, 15] (by decide) rfl
    refine kx_i (va_runV (As := [.int (nI a)]) (rest := []) ⟨hx, hb, hml, hown, hts⟩ ((c_isUp l D cI cZ q n S P x a (hn1) (hn5) (hS1) (hS4) (hP5) (hP64) (by omega)) H.size) (cwV 1 hts (gV wd149 wd151 sl_DecreePool_isUp wd1 wd152) rfl rfl rfl (by decide +kernel) ⟨Nat.le_of_ble_eq_true rfl, Nat.le_of_ble_eq_true rfl⟩) ⟨fb_PW, va_recv (q0 := 0) (ci := 0) hK hPc rfl rfl, pre_PW hK hPc hDc hZ⟩ rfl rfl hl.1 rfl (lv_room (Nat.le_of_ble_eq_true rfl)) dDecreePool_restart_10 ⟨Nat.zero_le _, Nat.zero_le _⟩) hP hD hS hA [0, 1, 2, 3, 4, 5, 6, 7, 8, 9, 10, 11, 12, 13, 14, 15] [] rfl rfl (by decide) (by decide) (fun r w1 H locs hw hP hD hS => ?_)
    rcases hw with ⟨rfl, h10, rfl⟩ | ⟨rfl, h10, rfl⟩
    · have hP : va_P D vwCl (wX q cI n S P x) H := hP
      have hD : va_D A (wX q cI n S P x) := hD
      refine lv_if_eq (tgt := 18) hx hb dDecreePool_restart_13 (by decide) (fun h9 => absurd h9 (by decide)) (fun _ => ?_)
      refine lv_iconst (v := (-1)) hx hb dDecreePool_restart_16 (by decide) ?_
      exact W.iret (v := (-1)) hx hb hr (fun t9 ht9 hW9 => ⟨⟨(-1), (wX q cI n S P x), rfl, fin2 (if_neg (fun h => h.2 (by rw [ix_nI ha (by omega)]; exact h10))), by rw [ht9]; exact hP, va_K.moved hW9.alike hK, hD⟩, hS.F ht9⟩) hS.2.2 dDecreePool_restart_17
    · have hP : va_P D vwCl (wX q cI n S P x) H := hP
      have hD : va_D A (wX q cI n S P x) := hD
      refine lv_if_eq (tgt := 18) hx hb dDecreePool_restart_13 (by decide) (fun _ => ?_) (fun h9 => absurd (by decide) h9)
      refine lv_aload_n hx hb dDecreePool_restart_18 rfl (lv_at hl 0 rfl) ?_
      refine lv_dup hx hb dDecreePool_restart_19 rfl ?_
      refine va_get (D := D) (ci := 0) (v := .int (nI (msk (col (x.1 13) 0) n))) (C := RDecreePool) (T := TDecreePool) (N := 9) hx hb hts (fun w h => mc (uDecreePool_in w h)) hown hK hP 0 rfl rfl 6 (by decide) (hts _ (mc wd111)) (fun _ h9 => h9) rfl dDecreePool_restart_20 ?_
      refine lv_iconst (v := nI 1) hx hb dDecreePool_restart_23 (by decide) ?_
      refine lv_iload_n hx hb dDecreePool_restart_24 rfl (lv_at hl 1 rfl) ?_
      refine lv_ishl hx hb dDecreePool_restart_25 ?_
      refine lv_ior hx hb dDecreePool_restart_26 ?_
      refine lv_topi (nm_r ((back_val ha hn5 h10).trans (by rw [col_up])) ?_)
      refine va_put (D := D) (ci := 0) (v := .int (nI (msk (col (up2 (x.1 13) a 0 (nI 0)) 0) n))) (ty := .int) (C := RDecreePool) (T := TDecreePool) (N := 9) hx hb hts (fun w h => mc (uDecreePool_in w h)) tyDecreePool tyDecreePool_ok nmDecreePool hown hK hP hD hS 0 rfl rfl 6 (by decide) (hts _ (mc wd111)) (fun _ h9 => h9) rfl (by decide +kernel) rfl rfl (Nat.le_of_ble_eq_true rfl) dDecreePool_restart_27 (fun H locs hP hD hS => ?_)
      have hP : va_P D vwCl (wX q cI n S P (put x 13 a 0 (nI 0))) H := hP
      have hD : va_D A (wX q cI n S P (put x 13 a 0 (nI 0))) := hD
      have hW1 : (wX q cI n S P (put x 13 a 0 (nI 0))) = (wX q cI n S P (clr (put x 13 a 0 (nI 0)) a 0)) := by rw [clr_0]
      rw [hW1] at hP hD
      refine lv_iconst (v := nI 0) hx hb dDecreePool_restart_30 (by decide) ?_
      refine lv_istore_n hx hb dDecreePool_restart_31 rfl hl (by decide) rfl (fun ls hl => ?_)
      have hl : lv_has ls 4 [(2, .int (nI 0)), (0, .ref (q 0)), (1, .int (nI a))] := hl
      have loop32 : ∀ (d32 i : Nat) (ls : Array Slot) (H : Heap) (locs : List Loc), i + d32 = S → lv_has ls 4 [(2, .int (nI i)), (0, .ref (q 0)), (1, .int (nI a))] → va_P D vwCl (wX q cI n S P (clr (put x 13 a 0 (nI 0)) a i)) H → va_D A (wX q cI n S P (clr (put x 13 a 0 (nI 0)) a i)) → va_S A s.heap H locs → W p l e (headSpec wsDecreePool_restart { frames := 2, cells := 0, slots := 0, locals := 43 }).room s m [.ref (q 0), .int (nI a)].toArray below meth c H locs 0 0 (MQ below (va_Qi (fun r w => r = (sRest n x (nI a)).1 ∧ w = (wX q cI n S P (sRest n x (nI a)).2)) (QW D [(cI, .int), (cZ, .boolean)] A) A) [.ref (q 0), .int (nI a)].toArray s 0 0 A) (F0 m 32 ls []) := by
        intro d32
        induction d32 with
        | zero =>
          intro i ls H locs hid32  hl hP hD hS
          refine lv_iload_n hx hb dDecreePool_restart_32 rfl (lv_at hl 0 rfl) ?_
          refine lv_aload_n hx hb dDecreePool_restart_33 rfl (lv_at hl 1 rfl) ?_
          refine va_get (D := D) (ci := 0) (v := .int (nI S)) (C := RDecreePool) (T := TDecreePool) (N := 9) hx hb hts (fun w h => mc (uDecreePool_in w h)) hown hK hP 0 rfl rfl 1 (by decide) (hts _ (mc wd106)) (fun _ h9 => h9) rfl dDecreePool_restart_34 ?_
          refine lv_icmp_ge (tgt := 69) hx hb dDecreePool_restart_37 (by decide) (fun _ => ?_) (fun h9 => absurd (nI_le (by omega) (by omega)) h9)
          have hin : S = i := by omega
          subst hin
          have hW2 : (wX q cI n S P (clr (put x 13 a 0 (nI 0)) a S)) = (wX q cI n S P (sBack (put x 13 a 0 (nI 0)) a)) := wX_back hn1 hS1
          rw [hW2] at hP hD
          refine lv_aload_n hx hb dDecreePool_restart_69 rfl (lv_at hl 1 rfl) ?_
          refine va_get (D := D) (ci := 0) (v := .int (nI (msk (col ((sBack (put x 13 a 0 (nI 0)) a).1 13) 0) n))) (C := RDecreePool) (T := TDecreePool) (N := 9) hx hb hts (fun w h => mc (uDecreePool_in w h)) hown hK hP 0 rfl rfl 6 (by decide) (hts _ (mc wd111)) (fun _ h9 => h9) rfl dDecreePool_restart_70 ?_
          have hPc := hP.sub (ws' := ([] : va_W)) [] rfl
          have hDc := hD.sub (ws' := ([] : va_W)) [] (by decide) rfl
          refine kx_i (va_runS (As := [.int (nI (msk (col ((sBack (put x 13 a 0 (nI 0)) a).1 13) 0) n))]) (rest := []) ⟨hx, hb, hml, hown, hts⟩ ((c_bitCount l D cI cZ (msk (col ((sBack (put x 13 a 0 (nI 0)) a).1 13) 0) n) (msk_32 _ hn5)) H.size) (va_cwS 1 hts (gS wd308 wd212 wd8 wd213) rfl rfl rfl (by decide +kernel) ⟨Nat.le_of_ble_eq_true rfl, Nat.le_of_ble_eq_true rfl⟩) ⟨fb_PW, pre_PW hK hPc hDc hZ⟩ rfl rfl hl.1 rfl (lv_room (Nat.le_of_ble_eq_true rfl)) dDecreePool_restart_73 ⟨Nat.zero_le _, Nat.zero_le _⟩) hP hD hS hA [] [0, 1, 2, 3, 4, 5, 6, 7, 8, 9, 10, 11, 12, 13, 14, 15] rfl rfl (by decide) (by decide) (fun r w1 H locs hw hP hD hS => ?_)
          obtain ⟨rfl, rfl⟩ := hw
          have hP : va_P D vwCl (wX q cI n S P (sBack (put x 13 a 0 (nI 0)) a)) H := hP
          have hD : va_D A (wX q cI n S P (sBack (put x 13 a 0 (nI 0)) a)) := hD
          have hres : sRest n x (nI a) = (nI (popn (msk (col ((sBack (put x 13 a 0 (nI 0)) a).1 13) 0) n)), sBack (put x 13 a 0 (nI 0)) a) := by
            rw [pop_msk hn5, back_13]
            unfold sRest
            rw [if_pos ⟨h2, by rw [ix_nI ha (by omega)]; exact h10⟩, ix_nI ha (by omega)]
            try rfl
          exact W.iret (v := nI (popn (msk (col ((sBack (put x 13 a 0 (nI 0)) a).1 13) 0) n))) hx hb hr (fun t9 ht9 hW9 => ⟨⟨nI (popn (msk (col ((sBack (put x 13 a 0 (nI 0)) a).1 13) 0) n)), (wX q cI n S P (sBack (put x 13 a 0 (nI 0)) a)), rfl, fin2 hres, by rw [ht9]; exact hP, va_K.moved hW9.alike hK, hD⟩, hS.F ht9⟩) hS.2.2 dDecreePool_restart_76
        | succ d32 ih32 =>
          intro i ls H locs hid32  hl hP hD hS
          refine lv_iload_n hx hb dDecreePool_restart_32 rfl (lv_at hl 0 rfl) ?_
          refine lv_aload_n hx hb dDecreePool_restart_33 rfl (lv_at hl 1 rfl) ?_
          refine va_get (D := D) (ci := 0) (v := .int (nI S)) (C := RDecreePool) (T := TDecreePool) (N := 9) hx hb hts (fun w h => mc (uDecreePool_in w h)) hown hK hP 0 rfl rfl 1 (by decide) (hts _ (mc wd106)) (fun _ h9 => h9) rfl dDecreePool_restart_34 ?_
          refine lv_icmp_ge (tgt := 69) hx hb dDecreePool_restart_37 (by decide) (fun h9 => absurd h9 (nI_ge (by omega) (by omega))) (fun _ => ?_)
          refine lv_aload_n hx hb dDecreePool_restart_40 rfl (lv_at hl 1 rfl) ?_
          refine lv_iload_n hx hb dDecreePool_restart_41 rfl (lv_at hl 2 rfl) ?_
          refine lv_iload_n hx hb dDecreePool_restart_42 rfl (lv_at hl 0 rfl) ?_
          have hPc := hP.sub (ws' := (wX q cI n S P (clr (put x 13 a 0 (nI 0)) a i))) [0, 1, 2, 3, 4, 5, 6, 7, 8, 9, 10, 11, 12, 13, 14, 15] rfl
          have hDc := hD.sub (ws' := (wX q cI n S P (clr (put x 13 a 0 (nI 0)) a i))) [0, 1, 2, 3, 4, 5, 6, 7, 8, 9, 10, 11, 12, 13, 14, 15] (by decide) rfl
          refine kx_i (va_runV (As := [.int (nI a), .int (nI i)]) (rest := []) ⟨hx, hb, hml, hown, hts⟩ ((c_seatOf l D cI cZ q n S P (clr (put x 13 a 0 (nI 0)) a i) a i (hn1) (hn5) (hS1) (hS4) (hP5) (hP64)) H.size) (cwV 2 hts (gV wd153 wd155 sl_DecreePool_seatOf wd1 wd156) rfl rfl rfl (by decide +kernel) ⟨Nat.le_of_ble_eq_true rfl, Nat.le_of_ble_eq_true rfl⟩) ⟨fb_PW, va_recv (q0 := 0) (ci := 0) hK hPc rfl rfl, pre_PW hK hPc hDc hZ⟩ rfl rfl hl.1 rfl (lv_room (Nat.le_of_ble_eq_true rfl)) dDecreePool_restart_43 ⟨Nat.zero_le _, Nat.zero_le _⟩) hP hD hS hA [0, 1, 2, 3, 4, 5, 6, 7, 8, 9, 10, 11, 12, 13, 14, 15] [] rfl rfl (by decide) (by decide) (fun r w1 H locs hw hP hD hS => ?_)
          obtain ⟨rfl, rfl⟩ := hw
          have hP : va_P D vwCl (wX q cI n S P (clr (put x 13 a 0 (nI 0)) a i)) H := hP
          have hD : va_D A (wX q cI n S P (clr (put x 13 a 0 (nI 0)) a i)) := hD
          refine lv_istore_n hx hb dDecreePool_restart_46 rfl hl (by decide) rfl (fun ls hl => ?_)
          have hl : lv_has ls 4 [(3, .int (nI (a * S + i))), (2, .int (nI i)), (0, .ref (q 0)), (1, .int (nI a))] := hl
          refine lv_aload_n hx hb dDecreePool_restart_47 rfl (lv_at hl 2 rfl) ?_
          refine va_get (D := D) (ci := 0) (v := .ref (q 3)) (C := RDecreePool) (T := TDecreePool) (N := 9) hx hb hts (fun w h => mc (uDecreePool_in w h)) hown hK hP 0 rfl rfl 3 (by decide) (hts _ (mc wd108)) (fun _ h9 => h9) rfl dDecreePool_restart_48 ?_
          refine lv_iload_n hx hb dDecreePool_restart_51 rfl (lv_at hl 0 rfl) ?_
          have hPc := hP.sub (ws' := (wPr q cI n (n * S) (sq S ((clr (put x 13 a 0 (nI 0)) a i).1 1)) (sq S ((clr (put x 13 a 0 (nI 0)) a i).1 2)) (sq S ((clr (put x 13 a 0 (nI 0)) a i).1 3)) (sq S ((clr (put x 13 a 0 (nI 0)) a i).1 4)) (sq S ((clr (put x 13 a 0 (nI 0)) a i).1 5)))) [3, 4, 5, 6, 7, 8] rfl
          have hDc := hD.sub (ws' := (wPr q cI n (n * S) (sq S ((clr (put x 13 a 0 (nI 0)) a i).1 1)) (sq S ((clr (put x 13 a 0 (nI 0)) a i).1 2)) (sq S ((clr (put x 13 a 0 (nI 0)) a i).1 3)) (sq S ((clr (put x 13 a 0 (nI 0)) a i).1 4)) (sq S ((clr (put x 13 a 0 (nI 0)) a i).1 5)))) [3, 4, 5, 6, 7, 8] (by decide) rfl
          refine kx_v (va_runV (As := [.int (nI (a * S + i))]) (rest := []) ⟨hx, hb, hml, hown, hts⟩ ((c_prBack l D cI cZ q n (n * S) (sq S ((clr (put x 13 a 0 (nI 0)) a i).1 1)) (sq S ((clr (put x 13 a 0 (nI 0)) a i).1 2)) (sq S ((clr (put x 13 a 0 (nI 0)) a i).1 3)) (sq S ((clr (put x 13 a 0 (nI 0)) a i).1 4)) (sq S ((clr (put x 13 a 0 (nI 0)) a i).1 5)) (a * S + i) (L20 hn5 hS4) (seat_lt ha (by omega))) H.size) (cwV 1 hts (gV wd313 wd314 wd315 wd3 wd316) rfl rfl rfl (by decide +kernel) ⟨Nat.le_of_ble_eq_true rfl, Nat.le_of_ble_eq_true rfl⟩) ⟨fb_PW, va_recv (q0 := 0) (ci := 2) hK hPc rfl rfl, pre_PW hK hPc hDc hZ⟩ rfl rfl hl.1 rfl (lv_room (Nat.le_of_ble_eq_true rfl)) dDecreePool_restart_52 ⟨Nat.zero_le _, Nat.zero_le _⟩) hP hD hS hA [3, 4, 5, 6, 7, 8] [0, 1, 2, 9, 10, 11, 12, 13, 14, 15] rfl rfl (by decide) (by decide) (fun w1 H locs hw hP hD hS => ?_)
          obtain rfl := hw
          have hP : va_P D vwCl (wD q cI n S P (n * S) (nI (msk (col ((clr (put x 13 a 0 (nI 0)) a i).1 13) 0) n)) ((clr (put x 13 a 0 (nI 0)) a i).1 12 0 0) ((clr (put x 13 a 0 (nI 0)) a i).1 12 0 1) ((clr (put x 13 a 0 (nI 0)) a i).1 0) (cntx P (clr (put x 13 a 0 (nI 0)) a i)) (upd (sq S ((clr (put x 13 a 0 (nI 0)) a i).1 1)) (a * S + i) (nI 0)) (sq S ((clr (put x 13 a 0 (nI 0)) a i).1 2)) (upd (sq S ((clr (put x 13 a 0 (nI 0)) a i).1 3)) (a * S + i) (nI 0)) (upd (sq S ((clr (put x 13 a 0 (nI 0)) a i).1 4)) (a * S + i) (-1)) (sq S ((clr (put x 13 a 0 (nI 0)) a i).1 5)) (sq S ((clr (put x 13 a 0 (nI 0)) a i).1 8)) (sq S ((clr (put x 13 a 0 (nI 0)) a i).1 9)) (sq S ((clr (put x 13 a 0 (nI 0)) a i).1 10)) (hq n S ((clr (put x 13 a 0 (nI 0)) a i).2 0)) (sq S ((clr (put x 13 a 0 (nI 0)) a i).1 11))) H := hP.sub [0, 1, 2, 10, 11, 12, 13, 14, 15, 3, 4, 5, 6, 7, 8, 9] rfl
          have hD : va_D A (wD q cI n S P (n * S) (nI (msk (col ((clr (put x 13 a 0 (nI 0)) a i).1 13) 0) n)) ((clr (put x 13 a 0 (nI 0)) a i).1 12 0 0) ((clr (put x 13 a 0 (nI 0)) a i).1 12 0 1) ((clr (put x 13 a 0 (nI 0)) a i).1 0) (cntx P (clr (put x 13 a 0 (nI 0)) a i)) (upd (sq S ((clr (put x 13 a 0 (nI 0)) a i).1 1)) (a * S + i) (nI 0)) (sq S ((clr (put x 13 a 0 (nI 0)) a i).1 2)) (upd (sq S ((clr (put x 13 a 0 (nI 0)) a i).1 3)) (a * S + i) (nI 0)) (upd (sq S ((clr (put x 13 a 0 (nI 0)) a i).1 4)) (a * S + i) (-1)) (sq S ((clr (put x 13 a 0 (nI 0)) a i).1 5)) (sq S ((clr (put x 13 a 0 (nI 0)) a i).1 8)) (sq S ((clr (put x 13 a 0 (nI 0)) a i).1 9)) (sq S ((clr (put x 13 a 0 (nI 0)) a i).1 10)) (hq n S ((clr (put x 13 a 0 (nI 0)) a i).2 0)) (sq S ((clr (put x 13 a 0 (nI 0)) a i).1 11))) := hD.sub [0, 1, 2, 10, 11, 12, 13, 14, 15, 3, 4, 5, 6, 7, 8, 9] (by decide) rfl
          refine lv_aload_n hx hb dDecreePool_restart_55 rfl (lv_at hl 2 rfl) ?_
          refine va_get (D := D) (ci := 0) (v := .ref (q 13)) (C := RDecreePool) (T := TDecreePool) (N := 9) hx hb hts (fun w h => mc (uDecreePool_in w h)) hown hK hP 0 rfl rfl 5 (by decide) (hts _ (mc wd110)) (fun _ h9 => h9) rfl dDecreePool_restart_56 ?_
          refine lv_iload_n hx hb dDecreePool_restart_59 rfl (lv_at hl 0 rfl) ?_
          have hPc := hP.sub (ws' := (wLe q cI n (n * S) (hq n S ((clr (put x 13 a 0 (nI 0)) a i).2 0)) (sq S ((clr (put x 13 a 0 (nI 0)) a i).1 11)))) [13, 14, 15] rfl
          have hDc := hD.sub (ws' := (wLe q cI n (n * S) (hq n S ((clr (put x 13 a 0 (nI 0)) a i).2 0)) (sq S ((clr (put x 13 a 0 (nI 0)) a i).1 11)))) [13, 14, 15] (by decide) rfl
          refine kx_v (va_runV (As := [.int (nI (a * S + i))]) (rest := []) ⟨hx, hb, hml, hown, hts⟩ ((c_leBack l D cI cZ q n (n * S) (hq n S ((clr (put x 13 a 0 (nI 0)) a i).2 0)) (sq S ((clr (put x 13 a 0 (nI 0)) a i).1 11)) (a * S + i) (L20 hn5 hS4) (hn5) (seat_lt ha (by omega))) H.size) (cwV 1 hts (gV wd317 wd318 wd319 wd6 wd320) rfl rfl rfl (by decide +kernel) ⟨Nat.le_of_ble_eq_true rfl, Nat.le_of_ble_eq_true rfl⟩) ⟨fb_PW, va_recv (q0 := 0) (ci := 4) hK hPc rfl rfl, pre_PW hK hPc hDc hZ⟩ rfl rfl hl.1 rfl (lv_room (Nat.le_of_ble_eq_true rfl)) dDecreePool_restart_60 ⟨Nat.zero_le _, Nat.zero_le _⟩) hP hD hS hA [13, 14, 15] [0, 1, 2, 3, 4, 5, 6, 7, 8, 9, 10, 11, 12] rfl rfl (by decide) (by decide) (fun w1 H locs hw hP hD hS => ?_)
          obtain rfl := hw
          have hP : va_P D vwCl (wD q cI n S P (n * S) (nI (msk (col ((clr (put x 13 a 0 (nI 0)) a i).1 13) 0) n)) ((clr (put x 13 a 0 (nI 0)) a i).1 12 0 0) ((clr (put x 13 a 0 (nI 0)) a i).1 12 0 1) ((clr (put x 13 a 0 (nI 0)) a i).1 0) (cntx P (clr (put x 13 a 0 (nI 0)) a i)) (upd (sq S ((clr (put x 13 a 0 (nI 0)) a i).1 1)) (a * S + i) (nI 0)) (sq S ((clr (put x 13 a 0 (nI 0)) a i).1 2)) (upd (sq S ((clr (put x 13 a 0 (nI 0)) a i).1 3)) (a * S + i) (nI 0)) (upd (sq S ((clr (put x 13 a 0 (nI 0)) a i).1 4)) (a * S + i) (-1)) (sq S ((clr (put x 13 a 0 (nI 0)) a i).1 5)) (sq S ((clr (put x 13 a 0 (nI 0)) a i).1 8)) (sq S ((clr (put x 13 a 0 (nI 0)) a i).1 9)) (sq S ((clr (put x 13 a 0 (nI 0)) a i).1 10)) (fillr (hq n S ((clr (put x 13 a 0 (nI 0)) a i).2 0)) ((a * S + i) * n) (-1) n) (upd (sq S ((clr (put x 13 a 0 (nI 0)) a i).1 11)) (a * S + i) (nI 0))) H := hP
          have hD : va_D A (wD q cI n S P (n * S) (nI (msk (col ((clr (put x 13 a 0 (nI 0)) a i).1 13) 0) n)) ((clr (put x 13 a 0 (nI 0)) a i).1 12 0 0) ((clr (put x 13 a 0 (nI 0)) a i).1 12 0 1) ((clr (put x 13 a 0 (nI 0)) a i).1 0) (cntx P (clr (put x 13 a 0 (nI 0)) a i)) (upd (sq S ((clr (put x 13 a 0 (nI 0)) a i).1 1)) (a * S + i) (nI 0)) (sq S ((clr (put x 13 a 0 (nI 0)) a i).1 2)) (upd (sq S ((clr (put x 13 a 0 (nI 0)) a i).1 3)) (a * S + i) (nI 0)) (upd (sq S ((clr (put x 13 a 0 (nI 0)) a i).1 4)) (a * S + i) (-1)) (sq S ((clr (put x 13 a 0 (nI 0)) a i).1 5)) (sq S ((clr (put x 13 a 0 (nI 0)) a i).1 8)) (sq S ((clr (put x 13 a 0 (nI 0)) a i).1 9)) (sq S ((clr (put x 13 a 0 (nI 0)) a i).1 10)) (fillr (hq n S ((clr (put x 13 a 0 (nI 0)) a i).2 0)) ((a * S + i) * n) (-1) n) (upd (sq S ((clr (put x 13 a 0 (nI 0)) a i).1 11)) (a * S + i) (nI 0))) := hD
          have hW3 : (wD q cI n S P (n * S) (nI (msk (col ((clr (put x 13 a 0 (nI 0)) a i).1 13) 0) n)) ((clr (put x 13 a 0 (nI 0)) a i).1 12 0 0) ((clr (put x 13 a 0 (nI 0)) a i).1 12 0 1) ((clr (put x 13 a 0 (nI 0)) a i).1 0) (cntx P (clr (put x 13 a 0 (nI 0)) a i)) (upd (sq S ((clr (put x 13 a 0 (nI 0)) a i).1 1)) (a * S + i) (nI 0)) (sq S ((clr (put x 13 a 0 (nI 0)) a i).1 2)) (upd (sq S ((clr (put x 13 a 0 (nI 0)) a i).1 3)) (a * S + i) (nI 0)) (upd (sq S ((clr (put x 13 a 0 (nI 0)) a i).1 4)) (a * S + i) (-1)) (sq S ((clr (put x 13 a 0 (nI 0)) a i).1 5)) (sq S ((clr (put x 13 a 0 (nI 0)) a i).1 8)) (sq S ((clr (put x 13 a 0 (nI 0)) a i).1 9)) (sq S ((clr (put x 13 a 0 (nI 0)) a i).1 10)) (fillr (hq n S ((clr (put x 13 a 0 (nI 0)) a i).2 0)) ((a * S + i) * n) (-1) n) (upd (sq S ((clr (put x 13 a 0 (nI 0)) a i).1 11)) (a * S + i) (nI 0))) = (wX q cI n S P (clr (put x 13 a 0 (nI 0)) a (i + 1))) := wX_clr hn1 (show i < S by omega)
          rw [hW3] at hP hD
          refine lv_iinc (k := 1) (v := nI (i + 1)) hx hb dDecreePool_restart_63 hl rfl ((nI_succ _).symm) (by decide) rfl (fun ls hl => ?_)
          have hl : lv_has ls 4 [(2, .int (nI (i + 1))), (3, .int (nI (a * S + i))), (0, .ref (q 0)), (1, .int (nI a))] := hl
          refine lv_goto (tgt := 32) hx hb dDecreePool_restart_66 (by decide) ?_
          exact ih32 (i + 1) ls H locs (by omega) (lv_sub hl [0, 2, 3] rfl) hP hD hS
      exact loop32 S 0 ls H locs (by omega) hl hP hD hS
  · have hP : va_P D vwCl (wX q cI n S P x) H := hP
    have hD : va_D A (wX q cI n S P x) := hD
    refine lv_if_eq (tgt := 16) hx hb dDecreePool_restart_5 (by decide) (fun _ => ?_) (fun h9 => absurd (by decide) h9)
    refine lv_iconst (v := (-1)) hx hb dDecreePool_restart_16 (by decide) ?_
    exact W.iret (v := (-1)) hx hb hr (fun t9 ht9 hW9 => ⟨⟨(-1), (wX q cI n S P x), rfl, fin2 (if_neg (fun h => h2 h.1)), by rw [ht9]; exact hP, va_K.moved hW9.alike hK, hD⟩, hS.F ht9⟩) hS.2.2 dDecreePool_restart_17
theorem dDecreePool_tell_0 : decode cDecreePool_tell 0 = .ok (.aload_n 0, 1) := by decide +kernel
theorem dDecreePool_tell_1 : decode cDecreePool_tell 1 = .ok (.iload_n 1, 1) := by decide +kernel
theorem dDecreePool_tell_2 : decode cDecreePool_tell 2 = .ok (.iload_n 2, 1) := by decide +kernel
theorem dDecreePool_tell_3 : decode cDecreePool_tell 3 = .ok (.invokevirtual 61, 3) := by decide +kernel
theorem dDecreePool_tell_6 : decode cDecreePool_tell 6 = .ok (.ifCond .ne 5, 3) := by decide +kernel
theorem dDecreePool_tell_9 : decode cDecreePool_tell 9 = .ok (.iconst (-1), 1) := by decide +kernel
theorem dDecreePool_tell_10 : decode cDecreePool_tell 10 = .ok (.ireturn, 1) := by decide +kernel
theorem dDecreePool_tell_11 : decode cDecreePool_tell 11 = .ok (.aload_n 0, 1) := by decide +kernel
theorem dDecreePool_tell_12 : decode cDecreePool_tell 12 = .ok (.getfield 48, 3) := by decide +kernel
theorem dDecreePool_tell_15 : decode cDecreePool_tell 15 = .ok (.aload_n 0, 1) := by decide +kernel
theorem dDecreePool_tell_16 : decode cDecreePool_tell 16 = .ok (.iload_n 1, 1) := by decide +kernel
theorem dDecreePool_tell_17 : decode cDecreePool_tell 17 = .ok (.iload_n 2, 1) := by decide +kernel
theorem dDecreePool_tell_18 : decode cDecreePool_tell 18 = .ok (.invokevirtual 69, 3) := by decide +kernel
theorem dDecreePool_tell_21 : decode cDecreePool_tell 21 = .ok (.invokevirtual 122, 3) := by decide +kernel
theorem dDecreePool_tell_24 : decode cDecreePool_tell 24 = .ok (.istore_n 3, 1) := by decide +kernel
theorem dDecreePool_tell_25 : decode cDecreePool_tell 25 = .ok (.iload_n 3, 1) := by decide +kernel
theorem dDecreePool_tell_26 : decode cDecreePool_tell 26 = .ok (.ifCond .ne 5, 3) := by decide +kernel
theorem dDecreePool_tell_29 : decode cDecreePool_tell 29 = .ok (.iconst (-1), 1) := by decide +kernel
theorem dDecreePool_tell_30 : decode cDecreePool_tell 30 = .ok (.ireturn, 1) := by decide +kernel
theorem dDecreePool_tell_31 : decode cDecreePool_tell 31 = .ok (.aload_n 0, 1) := by decide +kernel
theorem dDecreePool_tell_32 : decode cDecreePool_tell 32 = .ok (.iload_n 1, 1) := by decide +kernel
theorem dDecreePool_tell_33 : decode cDecreePool_tell 33 = .ok (.invokevirtual 65, 3) := by decide +kernel
theorem dDecreePool_tell_36 : decode cDecreePool_tell 36 = .ok (.ifCond .ne 6, 3) := by decide +kernel
theorem dDecreePool_tell_39 : decode cDecreePool_tell 39 = .ok (.bipush (-2), 2) := by decide +kernel
theorem dDecreePool_tell_41 : decode cDecreePool_tell 41 = .ok (.ireturn, 1) := by decide +kernel
theorem dDecreePool_tell_42 : decode cDecreePool_tell 42 = .ok (.aload_n 0, 1) := by decide +kernel
theorem dDecreePool_tell_43 : decode cDecreePool_tell 43 = .ok (.getfield 25, 3) := by decide +kernel
theorem dDecreePool_tell_46 : decode cDecreePool_tell 46 = .ok (.invokevirtual 77, 3) := by decide +kernel
theorem dDecreePool_tell_49 : decode cDecreePool_tell 49 = .ok (.aload_n 0, 1) := by decide +kernel
theorem dDecreePool_tell_50 : decode cDecreePool_tell 50 = .ok (.getfield 13, 3) := by decide +kernel
theorem dDecreePool_tell_53 : decode cDecreePool_tell 53 = .ok (.if_icmp .ge 6, 3) := by decide +kernel
theorem dDecreePool_tell_56 : decode cDecreePool_tell 56 = .ok (.bipush (-4), 2) := by decide +kernel
theorem dDecreePool_tell_58 : decode cDecreePool_tell 58 = .ok (.ireturn, 1) := by decide +kernel
theorem dDecreePool_tell_59 : decode cDecreePool_tell 59 = .ok (.aload_n 0, 1) := by decide +kernel
theorem dDecreePool_tell_60 : decode cDecreePool_tell 60 = .ok (.iconst 5, 1) := by decide +kernel
theorem dDecreePool_tell_61 : decode cDecreePool_tell 61 = .ok (.iload_n 1, 1) := by decide +kernel
theorem dDecreePool_tell_62 : decode cDecreePool_tell 62 = .ok (.iload_n 2, 1) := by decide +kernel
theorem dDecreePool_tell_63 : decode cDecreePool_tell 63 = .ok (.iconst (-1), 1) := by decide +kernel
theorem dDecreePool_tell_64 : decode cDecreePool_tell 64 = .ok (.iload_n 3, 1) := by decide +kernel
theorem dDecreePool_tell_65 : decode cDecreePool_tell 65 = .ok (.invokevirtual 85, 3) := by decide +kernel
theorem dDecreePool_tell_68 : decode cDecreePool_tell 68 = .ok (.iload_n 3, 1) := by decide +kernel
theorem dDecreePool_tell_69 : decode cDecreePool_tell 69 = .ok (.ireturn, 1) := by decide +kernel
set_option maxRecDepth 100000 in
set_option maxHeartbeats 4000000 in
theorem c_tell (l : Launch) (D : va_G) (cI cZ : ClassId) (q : Nat → Nat) (n : Nat) (S : Nat) (P : Nat) (x : St) (nd : Int32) (sl : Int32) (hn1 : 1 ≤ n) (hn5 : n ≤ 5) (hS1 : 1 ≤ S) (hS4 : S ≤ 4) (hP5 : 5 ≤ P) (hP64 : P ≤ 64) : MI l D [(cI, .int), (cZ, .boolean)] yDecreePool_tell wsDecreePool_tell ({ frames := 4, cells := 0, slots := 0, locals := 98 }) [.ref (q 0), .int nd, .int sl] (wX q cI n S P x) (fun r w => r = (sTell n S P x nd sl).1 ∧ w = (wX q cI n S P (sTell n S P x nd sl).2)) := by
  intro sz
  refine Met.ofW (cc := cDecreePool_tell) (maxL := 4) (ret := (Option.some .int)) (by decide) rfl ?_
  intro p e s m args below meth c s₁ B hml hv
  obtain ⟨rfl, hsz, hP, hK, hD0, hZ⟩ := hv
  have hx := B.exec
  have hb := B.bytes
  have hr := B.returns
  have hts := atoms_spec (ws := wsDecreePool_tell) B.pre
  have hown : s.vm.findClass RDecreePool = some m.cls := findClass_of_methodNamed B.named
  have hlocks := B.notSynchronized
  subst hsz
  have hD := hD0.self (sz := s.heap.size)
  generalize hAe : va_A (wX q cI n S P x) s.heap.size = A at hD ⊢
  have hA : ∀ q : Nat, s.heap.size ≤ q → A q := fun q h => by rw [← hAe]; exact Or.inr h
  have hS : va_S A s.heap s.heap [] := va_S.rf
  have hP : va_P D vwCl (wX q cI n S P x) s.heap := hP
  have hl := lv_entry ([.ref (q 0), .int nd, .int sl]) (n := 4) (Nat.le_of_ble_eq_true rfl)
  rw [lg_entry_eq]
  generalize (lg_sl ([.ref (q 0), .int nd, .int sl]) ++ List.replicate (4 - (lg_sl ([.ref (q 0), .int nd, .int sl])).length) Slot.unset).toArray = ls at hl ⊢
  have hl : lv_has ls 4 [(0, .ref (q 0)), (1, .int nd), (2, .int sl)] := hl
  refine lv_aload_n hx hb dDecreePool_tell_0 rfl (lv_at hl 0 rfl) ?_
  refine lv_iload_n hx hb dDecreePool_tell_1 rfl (lv_at hl 1 rfl) ?_
  refine lv_iload_n hx hb dDecreePool_tell_2 rfl (lv_at hl 2 rfl) ?_
  have hPc := hP.sub (ws' := (wX q cI n S P x)) [0, 1, 2, 3, 4, 5, 6, 7, 8, 9, 10, 11, 12, 13, 14, 15] rfl
  have hDc := hD.sub (ws' := (wX q cI n S P x)) [0, 1, 2, 3, 4, 5, 6, 7, 8, 9, 10, 11, 12, 13, 14, 15] (by decide) rfl
  refine kx_i (va_runV (As := [.int nd, .int sl]) (rest := []) ⟨hx, hb, hml, hown, hts⟩ ((c_hasSeat l D cI cZ q n S P x nd sl (hn1) (hn5) (hS1) (hS4) (hP5) (hP64)) s.heap.size) (cwV 2 hts (gV wd137 wd139 sl_DecreePool_hasSeat wd1 wd140) rfl rfl rfl (by decide +kernel) ⟨Nat.le_of_ble_eq_true rfl, Nat.le_of_ble_eq_true rfl⟩) ⟨fb_PW, va_recv (q0 := 0) (ci := 0) hK hPc rfl rfl, pre_PW hK hPc hDc hZ⟩ rfl rfl hl.1 rfl (lv_room (Nat.le_of_ble_eq_true rfl)) dDecreePool_tell_3 ⟨Nat.zero_le _, Nat.zero_le _⟩) hP hD hS hA [0, 1, 2, 3, 4, 5, 6, 7, 8, 9, 10, 11, 12, 13, 14, 15] [] rfl rfl (by decide) (by decide) (fun r w1 H locs hw hP hD hS => ?_)
  rcases hw with ⟨rfl, h3, rfl⟩ | ⟨rfl, h3, rfl⟩
  · have hP : va_P D vwCl (wX q cI n S P x) H := hP
    have hD : va_D A (wX q cI n S P x) := hD
    obtain ⟨a, ha, rfl⟩ := okN_of (show n < 2 ^ 31 by omega) h3.1
    obtain ⟨t, ht, rfl⟩ := okN_of (show S < 2 ^ 31 by omega) h3.2
    refine lv_if_ne (tgt := 11) hx hb dDecreePool_tell_6 (by decide) (fun _ => ?_) (fun h9 => absurd h9 (by decide))
    refine lv_aload_n hx hb dDecreePool_tell_11 rfl (lv_at hl 0 rfl) ?_
    refine va_get (D := D) (ci := 0) (v := .ref (q 13)) (C := RDecreePool) (T := TDecreePool) (N := 9) hx hb hts (fun w h => mc (uDecreePool_in w h)) hown hK hP 0 rfl rfl 5 (by decide) (hts _ (mc wd110)) (fun _ h9 => h9) rfl dDecreePool_tell_12 ?_
    refine lv_aload_n hx hb dDecreePool_tell_15 rfl (lv_at hl 0 rfl) ?_
    refine lv_iload_n hx hb dDecreePool_tell_16 rfl (lv_at hl 1 rfl) ?_
    refine lv_iload_n hx hb dDecreePool_tell_17 rfl (lv_at hl 2 rfl) ?_
    have hPc := hP.sub (ws' := (wX q cI n S P x)) [0, 1, 2, 3, 4, 5, 6, 7, 8, 9, 10, 11, 12, 13, 14, 15] rfl
    have hDc := hD.sub (ws' := (wX q cI n S P x)) [0, 1, 2, 3, 4, 5, 6, 7, 8, 9, 10, 11, 12, 13, 14, 15] (by decide) rfl
    refine kx_i (va_runV (As := [.int (nI a), .int (nI t)]) (rest := [.ref (q 13)]) ⟨hx, hb, hml, hown, hts⟩ ((c_seatOf l D cI cZ q n S P x a t (hn1) (hn5) (hS1) (hS4) (hP5) (hP64)) H.size) (cwV 2 hts (gV wd153 wd155 sl_DecreePool_seatOf wd1 wd156) rfl rfl rfl (by decide +kernel) ⟨Nat.le_of_ble_eq_true rfl, Nat.le_of_ble_eq_true rfl⟩) ⟨fb_PW, va_recv (q0 := 0) (ci := 0) hK hPc rfl rfl, pre_PW hK hPc hDc hZ⟩ rfl rfl hl.1 rfl (lv_room (Nat.le_of_ble_eq_true rfl)) dDecreePool_tell_18 ⟨Nat.zero_le _, Nat.zero_le _⟩) hP hD hS hA [0, 1, 2, 3, 4, 5, 6, 7, 8, 9, 10, 11, 12, 13, 14, 15] [] rfl rfl (by decide) (by decide) (fun r w1 H locs hw hP hD hS => ?_)
    obtain ⟨rfl, rfl⟩ := hw
    have hP : va_P D vwCl (wX q cI n S P x) H := hP
    have hD : va_D A (wX q cI n S P x) := hD
    have hPc := hP.sub (ws' := (wLe q cI n (n * S) (hq n S (x.2 0)) (sq S (x.1 11)))) [13, 14, 15] rfl
    have hDc := hD.sub (ws' := (wLe q cI n (n * S) (hq n S (x.2 0)) (sq S (x.1 11)))) [13, 14, 15] (by decide) rfl
    refine kx_i (va_runV (As := [.int (nI (a * S + t))]) (rest := []) ⟨hx, hb, hml, hown, hts⟩ ((c_decree l D cI cZ q n (n * S) (hq n S (x.2 0)) (sq S (x.1 11)) (a * S + t) (L20 hn5 hS4) (seat_lt ha ht)) H.size) (cwV 1 hts (gV wd325 wd326 wd327 wd6 wd328) rfl rfl rfl (by decide +kernel) ⟨Nat.le_of_ble_eq_true rfl, Nat.le_of_ble_eq_true rfl⟩) ⟨fb_PW, va_recv (q0 := 0) (ci := 4) hK hPc rfl rfl, pre_PW hK hPc hDc hZ⟩ rfl rfl hl.1 rfl (lv_room (Nat.le_of_ble_eq_true rfl)) dDecreePool_tell_21 ⟨Nat.zero_le _, Nat.zero_le _⟩) hP hD hS hA [13, 14, 15] [0, 1, 2, 3, 4, 5, 6, 7, 8, 9, 10, 11, 12] rfl rfl (by decide) (by decide) (fun r w1 H locs hw hP hD hS => ?_)
    obtain ⟨rfl, rfl⟩ := hw
    have hP : va_P D vwCl (wX q cI n S P x) H := hP
    have hD : va_D A (wX q cI n S P x) := hD
    refine lv_topi (nm_r (sq_at ht) ?_)
    refine lv_istore_n hx hb dDecreePool_tell_24 rfl hl (by decide) rfl (fun ls hl => ?_)
    have hl : lv_has ls 4 [(3, .int (x.1 11 a t)), (0, .ref (q 0)), (1, .int (nI a)), (2, .int (nI t))] := hl
    refine lv_iload_n hx hb dDecreePool_tell_25 rfl (lv_at hl 0 rfl) ?_
    refine lv_if_ne (tgt := 31) hx hb dDecreePool_tell_26 (by decide) (fun c26 => ?_) (fun c26 => ?_)
    · have hok : okN (nI a) n ∧ okN (nI t) S ∧ x.1 11 (ix (nI a)) (ix (nI t)) ≠ 0 := ⟨h3.1, h3.2, by rw [ix_nI ha (by omega), ix_nI ht (by omega)]; exact c26⟩
      refine lv_aload_n hx hb dDecreePool_tell_31 rfl (lv_at hl 1 rfl) ?_
      refine lv_iload_n hx hb dDecreePool_tell_32 rfl (lv_at hl 2 rfl) ?_
      have hPc := hP.sub (ws' := (wX q cI n S P x)) [0, 1, 2, 3, 4, 5, 6, 7, 8, 9, 10, 11, 12, 13, 14, 15] rfl
      have hDc := hD.sub (ws' := (wX q cI n S P x)) [0, 1, 2, 3, 4, 5, 6, 7, 8, 9, 10, 11, 12, 13, 14, 15] (by decide) rfl
      refine kx_i (va_runV (As := [.int (nI a)]) (rest := []) ⟨hx, hb, hml, hown, hts⟩ ((c_isUp l D cI cZ q n S P x a (hn1) (hn5) (hS1) (hS4) (hP5) (hP64) (by omega)) H.size) (cwV 1 hts (gV wd149 wd151 sl_DecreePool_isUp wd1 wd152) rfl rfl rfl (by decide +kernel) ⟨Nat.le_of_ble_eq_true rfl, Nat.le_of_ble_eq_true rfl⟩) ⟨fb_PW, va_recv (q0 := 0) (ci := 0) hK hPc rfl rfl, pre_PW hK hPc hDc hZ⟩ rfl rfl hl.1 rfl (lv_room (Nat.le_of_ble_eq_true rfl)) dDecreePool_tell_33 ⟨Nat.zero_le _, Nat.zero_le _⟩) hP hD hS hA [0, 1, 2, 3, 4, 5, 6, 7, 8, 9, 10, 11, 12, 13, 14, 15] [] rfl rfl (by decide) (by decide) (fun r w1 H locs hw hP hD hS => ?_)
      rcases hw with ⟨rfl, h33, rfl⟩ | ⟨rfl, h33, rfl⟩
      · have hP : va_P D vwCl (wX q cI n S P x) H := hP
        have hD : va_D A (wX q cI n S P x) := hD
        refine lv_if_ne (tgt := 42) hx hb dDecreePool_tell_36 (by decide) (fun _ => ?_) (fun h9 => absurd h9 (by decide))
        refine lv_aload_n hx hb dDecreePool_tell_42 rfl (lv_at hl 1 rfl) ?_
        refine va_get (D := D) (ci := 0) (v := .ref (q 1)) (C := RDecreePool) (T := TDecreePool) (N := 9) hx hb hts (fun w h => mc (uDecreePool_in w h)) hown hK hP 0 rfl rfl 2 (by decide) (hts _ (mc wd107)) (fun _ h9 => h9) rfl dDecreePool_tell_43 ?_
        have hPc := hP.sub (ws' := (wPo q cI P (x.1 0) (cntx P x))) [1, 2] rfl
        have hDc := hD.sub (ws' := (wPo q cI P (x.1 0) (cntx P x))) [1, 2] (by decide) rfl
        refine kx_i (va_runV (As := []) (rest := []) ⟨hx, hb, hml, hown, hts⟩ ((c_emptyPlaces l D cI cZ q P (x.1 0) (cntx P x) (cnt_le _ _)) H.size) (cwV 0 hts (gV wd161 wd162 wd163 wd2 wd164) rfl rfl rfl (by decide +kernel) ⟨Nat.le_of_ble_eq_true rfl, Nat.le_of_ble_eq_true rfl⟩) ⟨fb_PW, va_recv (q0 := 0) (ci := 1) hK hPc rfl rfl, pre_PW hK hPc hDc hZ⟩ rfl rfl hl.1 rfl (lv_room (Nat.le_of_ble_eq_true rfl)) dDecreePool_tell_46 ⟨Nat.zero_le _, Nat.zero_le _⟩) hP hD hS hA [1, 2] [0, 3, 4, 5, 6, 7, 8, 9, 10, 11, 12, 13, 14, 15] rfl rfl (by decide) (by decide) (fun r w1 H locs hw hP hD hS => ?_)
        obtain ⟨rfl, rfl⟩ := hw
        have hP : va_P D vwCl (wX q cI n S P x) H := hP.sub [0, 14, 15, 1, 2, 3, 4, 5, 6, 7, 8, 9, 10, 11, 12, 13] rfl
        have hD : va_D A (wX q cI n S P x) := hD.sub [0, 14, 15, 1, 2, 3, 4, 5, 6, 7, 8, 9, 10, 11, 12, 13] (by decide) rfl
        refine lv_aload_n hx hb dDecreePool_tell_49 rfl (lv_at hl 1 rfl) ?_
        refine va_get (D := D) (ci := 0) (v := .int (nI n)) (C := RDecreePool) (T := TDecreePool) (N := 9) hx hb hts (fun w h => mc (uDecreePool_in w h)) hown hK hP 0 rfl rfl 0 (by decide) (hts _ (mc wd105)) (fun _ h9 => h9) rfl dDecreePool_tell_50 ?_
        refine lv_icmp_ge (tgt := 59) hx hb dDecreePool_tell_53 (by decide) (fun c53 => ?_) (fun c53 => ?_)
        · have hfl : ¬ P - cntx P x < n := fun q => absurd c53 (nI_ge q (by omega))
          refine lv_aload_n hx hb dDecreePool_tell_59 rfl (lv_at hl 1 rfl) ?_
          refine lv_iconst (v := nI 5) hx hb dDecreePool_tell_60 (by decide) ?_
          refine lv_iload_n hx hb dDecreePool_tell_61 rfl (lv_at hl 2 rfl) ?_
          refine lv_iload_n hx hb dDecreePool_tell_62 rfl (lv_at hl 3 rfl) ?_
          refine lv_iconst (v := (-1)) hx hb dDecreePool_tell_63 (by decide) ?_
          refine lv_iload_n hx hb dDecreePool_tell_64 rfl (lv_at hl 0 rfl) ?_
          have hPc := hP.sub (ws' := (wX q cI n S P x)) [0, 1, 2, 3, 4, 5, 6, 7, 8, 9, 10, 11, 12, 13, 14, 15] rfl
          have hDc := hD.sub (ws' := (wX q cI n S P x)) [0, 1, 2, 3, 4, 5, 6, 7, 8, 9, 10, 11, 12, 13, 14, 15] (by decide) rfl
          refine kx_v (va_runV (As := [.int (nI 5), .int (nI a), .int (nI t), .int (-1), .int (x.1 11 a t)]) (rest := []) ⟨hx, hb, hml, hown, hts⟩ ((c_sendToAll l D cI cZ q n S P x (nI 5) (nI a) (nI t) (-1) (x.1 11 a t) (hn1) (hn5) (hS1) (hS4) (hP5) (hP64) (by decide) (by have h7 : cntx P x ≤ P := cnt_le _ _; omega)) H.size) (cwV 5 hts (gV wd169 wd171 sl_DecreePool_sendToAll wd1 wd172) rfl rfl rfl (by decide +kernel) ⟨Nat.le_of_ble_eq_true rfl, Nat.le_of_ble_eq_true rfl⟩) ⟨fb_PW, va_recv (q0 := 0) (ci := 0) hK hPc rfl rfl, pre_PW hK hPc hDc hZ⟩ rfl rfl hl.1 rfl (lv_room (Nat.le_of_ble_eq_true rfl)) dDecreePool_tell_65 ⟨Nat.zero_le _, Nat.zero_le _⟩) hP hD hS hA [0, 1, 2, 3, 4, 5, 6, 7, 8, 9, 10, 11, 12, 13, 14, 15] [] rfl rfl (by decide) (by decide) (fun w1 H locs hw hP hD hS => ?_)
          obtain rfl := hw
          have hP : va_P D vwCl (wX q cI n S P (sendA P x (nI 5) (nI a) (nI t) (-1) (x.1 11 a t) n)) H := hP
          have hD : va_D A (wX q cI n S P (sendA P x (nI 5) (nI a) (nI t) (-1) (x.1 11 a t) n)) := hD
          refine lv_iload_n hx hb dDecreePool_tell_68 rfl (lv_at hl 0 rfl) ?_
          exact W.iret (v := x.1 11 a t) hx hb hr (fun t9 ht9 hW9 => ⟨⟨x.1 11 a t, (wX q cI n S P (sendA P x (nI 5) (nI a) (nI t) (-1) (x.1 11 a t) n)), rfl, fin2 (by unfold sTell; rw [if_pos hok, ix_nI ha (by omega), ix_nI ht (by omega), if_neg (fun q => q h33), if_neg hfl]; try rfl), by rw [ht9]; exact hP, va_K.moved hW9.alike hK, hD⟩, hS.F ht9⟩) hS.2.2 dDecreePool_tell_69
        · have hfl : P - cntx P x < n := Nat.lt_of_not_le (fun q => c53 (nI_le q (by omega)))
          refine lv_bipush (v := (-4)) hx hb dDecreePool_tell_56 (by decide) ?_
          exact W.iret (v := (-4)) hx hb hr (fun t9 ht9 hW9 => ⟨⟨(-4), (wX q cI n S P x), rfl, fin2 (by unfold sTell; rw [if_pos hok, ix_nI ha (by omega), ix_nI ht (by omega), if_neg (fun q => q h33), if_pos hfl]; try rfl), by rw [ht9]; exact hP, va_K.moved hW9.alike hK, hD⟩, hS.F ht9⟩) hS.2.2 dDecreePool_tell_58
      · have hP : va_P D vwCl (wX q cI n S P x) H := hP
        have hD : va_D A (wX q cI n S P x) := hD
        refine lv_if_ne (tgt := 42) hx hb dDecreePool_tell_36 (by decide) (fun h9 => absurd (by decide) h9) (fun _ => ?_)
        refine lv_bipush (v := (-2)) hx hb dDecreePool_tell_39 (by decide) ?_
        exact W.iret (v := (-2)) hx hb hr (fun t9 ht9 hW9 => ⟨⟨(-2), (wX q cI n S P x), rfl, fin2 (by unfold sTell; rw [if_pos hok, ix_nI ha (by omega), ix_nI ht (by omega), if_pos h33]; try rfl), by rw [ht9]; exact hP, va_K.moved hW9.alike hK, hD⟩, hS.F ht9⟩) hS.2.2 dDecreePool_tell_41
    · refine lv_iconst (v := (-1)) hx hb dDecreePool_tell_29 (by decide) ?_
      exact W.iret (v := (-1)) hx hb hr (fun t9 ht9 hW9 => ⟨⟨(-1), (wX q cI n S P x), rfl, fin2 (if_neg (fun h => h.2.2 (by rw [ix_nI ha (by omega), ix_nI ht (by omega)]; exact c26))), by rw [ht9]; exact hP, va_K.moved hW9.alike hK, hD⟩, hS.F ht9⟩) hS.2.2 dDecreePool_tell_30
  · have hP : va_P D vwCl (wX q cI n S P x) H := hP
    have hD : va_D A (wX q cI n S P x) := hD
    refine lv_if_ne (tgt := 11) hx hb dDecreePool_tell_6 (by decide) (fun h9 => absurd (by decide) h9) (fun _ => ?_)
    refine lv_iconst (v := (-1)) hx hb dDecreePool_tell_9 (by decide) ?_
    exact W.iret (v := (-1)) hx hb hr (fun t9 ht9 hW9 => ⟨⟨(-1), (wX q cI n S P x), rfl, fin2 (if_neg (fun h => h3 ⟨h.1, h.2.1⟩)), by rw [ht9]; exact hP, va_K.moved hW9.alike hK, hD⟩, hS.F ht9⟩) hS.2.2 dDecreePool_tell_10
theorem dDecreePool_learned_0 : decode cDecreePool_learned 0 = .ok (.aload_n 0, 1) := by decide +kernel
theorem dDecreePool_learned_1 : decode cDecreePool_learned 1 = .ok (.iload_n 1, 1) := by decide +kernel
theorem dDecreePool_learned_2 : decode cDecreePool_learned 2 = .ok (.iload_n 2, 1) := by decide +kernel
theorem dDecreePool_learned_3 : decode cDecreePool_learned 3 = .ok (.invokevirtual 61, 3) := by decide +kernel
theorem dDecreePool_learned_6 : decode cDecreePool_learned 6 = .ok (.ifCond .eq 19, 3) := by decide +kernel
theorem dDecreePool_learned_9 : decode cDecreePool_learned 9 = .ok (.aload_n 0, 1) := by decide +kernel
theorem dDecreePool_learned_10 : decode cDecreePool_learned 10 = .ok (.getfield 48, 3) := by decide +kernel
theorem dDecreePool_learned_13 : decode cDecreePool_learned 13 = .ok (.aload_n 0, 1) := by decide +kernel
theorem dDecreePool_learned_14 : decode cDecreePool_learned 14 = .ok (.iload_n 1, 1) := by decide +kernel
theorem dDecreePool_learned_15 : decode cDecreePool_learned 15 = .ok (.iload_n 2, 1) := by decide +kernel
theorem dDecreePool_learned_16 : decode cDecreePool_learned 16 = .ok (.invokevirtual 69, 3) := by decide +kernel
theorem dDecreePool_learned_19 : decode cDecreePool_learned 19 = .ok (.invokevirtual 122, 3) := by decide +kernel
theorem dDecreePool_learned_22 : decode cDecreePool_learned 22 = .ok (.goto 4, 3) := by decide +kernel
theorem dDecreePool_learned_25 : decode cDecreePool_learned 25 = .ok (.iconst (-1), 1) := by decide +kernel
theorem dDecreePool_learned_26 : decode cDecreePool_learned 26 = .ok (.ireturn, 1) := by decide +kernel
set_option maxRecDepth 100000 in
set_option maxHeartbeats 4000000 in
theorem c_learned (l : Launch) (D : va_G) (cI cZ : ClassId) (q : Nat → Nat) (n : Nat) (S : Nat) (P : Nat) (x : St) (nd : Int32) (sl : Int32) (hn1 : 1 ≤ n) (hn5 : n ≤ 5) (hS1 : 1 ≤ S) (hS4 : S ≤ 4) (hP5 : 5 ≤ P) (hP64 : P ≤ 64) : MI l D [(cI, .int), (cZ, .boolean)] yDecreePool_learned wsDecreePool_learned ({ frames := 3, cells := 0, slots := 0, locals := 65 }) [.ref (q 0), .int nd, .int sl] (wX q cI n S P x) (fun r w => r = aLearned n S x nd sl ∧ w = (wX q cI n S P x)) := by
  intro sz
  refine Met.ofW (cc := cDecreePool_learned) (maxL := 3) (ret := (Option.some .int)) (by decide) rfl ?_
  intro p e s m args below meth c s₁ B hml hv
  obtain ⟨rfl, hsz, hP, hK, hD0, hZ⟩ := hv
  have hx := B.exec
  have hb := B.bytes
  have hr := B.returns
  have hts := atoms_spec (ws := wsDecreePool_learned) B.pre
  have hown : s.vm.findClass RDecreePool = some m.cls := findClass_of_methodNamed B.named
  have hlocks := B.notSynchronized
  subst hsz
  have hD := hD0.self (sz := s.heap.size)
  generalize hAe : va_A (wX q cI n S P x) s.heap.size = A at hD ⊢
  have hA : ∀ q : Nat, s.heap.size ≤ q → A q := fun q h => by rw [← hAe]; exact Or.inr h
  have hS : va_S A s.heap s.heap [] := va_S.rf
  have hP : va_P D vwCl (wX q cI n S P x) s.heap := hP
  have hl := lv_entry ([.ref (q 0), .int nd, .int sl]) (n := 3) (Nat.le_of_ble_eq_true rfl)
  rw [lg_entry_eq]
  generalize (lg_sl ([.ref (q 0), .int nd, .int sl]) ++ List.replicate (3 - (lg_sl ([.ref (q 0), .int nd, .int sl])).length) Slot.unset).toArray = ls at hl ⊢
  have hl : lv_has ls 3 [(0, .ref (q 0)), (1, .int nd), (2, .int sl)] := hl
  refine lv_aload_n hx hb dDecreePool_learned_0 rfl (lv_at hl 0 rfl) ?_
  refine lv_iload_n hx hb dDecreePool_learned_1 rfl (lv_at hl 1 rfl) ?_
  refine lv_iload_n hx hb dDecreePool_learned_2 rfl (lv_at hl 2 rfl) ?_
  have hPc := hP.sub (ws' := (wX q cI n S P x)) [0, 1, 2, 3, 4, 5, 6, 7, 8, 9, 10, 11, 12, 13, 14, 15] rfl
  have hDc := hD.sub (ws' := (wX q cI n S P x)) [0, 1, 2, 3, 4, 5, 6, 7, 8, 9, 10, 11, 12, 13, 14, 15] (by decide) rfl
  refine kx_i (va_runV (As := [.int nd, .int sl]) (rest := []) ⟨hx, hb, hml, hown, hts⟩ ((c_hasSeat l D cI cZ q n S P x nd sl (hn1) (hn5) (hS1) (hS4) (hP5) (hP64)) s.heap.size) (cwV 2 hts (gV wd137 wd139 sl_DecreePool_hasSeat wd1 wd140) rfl rfl rfl (by decide +kernel) ⟨Nat.le_of_ble_eq_true rfl, Nat.le_of_ble_eq_true rfl⟩) ⟨fb_PW, va_recv (q0 := 0) (ci := 0) hK hPc rfl rfl, pre_PW hK hPc hDc hZ⟩ rfl rfl hl.1 rfl (lv_room (Nat.le_of_ble_eq_true rfl)) dDecreePool_learned_3 ⟨Nat.zero_le _, Nat.zero_le _⟩) hP hD hS hA [0, 1, 2, 3, 4, 5, 6, 7, 8, 9, 10, 11, 12, 13, 14, 15] [] rfl rfl (by decide) (by decide) (fun r w1 H locs hw hP hD hS => ?_)
  rcases hw with ⟨rfl, h3, rfl⟩ | ⟨rfl, h3, rfl⟩
  · have hP : va_P D vwCl (wX q cI n S P x) H := hP
    have hD : va_D A (wX q cI n S P x) := hD
    obtain ⟨a, ha, rfl⟩ := okN_of (show n < 2 ^ 31 by omega) h3.1
    obtain ⟨t, ht, rfl⟩ := okN_of (show S < 2 ^ 31 by omega) h3.2
    refine lv_if_eq (tgt := 25) hx hb dDecreePool_learned_6 (by decide) (fun h9 => absurd h9 (by decide)) (fun _ => ?_)
    refine lv_aload_n hx hb dDecreePool_learned_9 rfl (lv_at hl 0 rfl) ?_
    refine va_get (D := D) (ci := 0) (v := .ref (q 13)) (C := RDecreePool) (T := TDecreePool) (N := 9) hx hb hts (fun w h => mc (uDecreePool_in w h)) hown hK hP 0 rfl rfl 5 (by decide) (hts _ (mc wd110)) (fun _ h9 => h9) rfl dDecreePool_learned_10 ?_
    refine lv_aload_n hx hb dDecreePool_learned_13 rfl (lv_at hl 0 rfl) ?_
    refine lv_iload_n hx hb dDecreePool_learned_14 rfl (lv_at hl 1 rfl) ?_
    refine lv_iload_n hx hb dDecreePool_learned_15 rfl (lv_at hl 2 rfl) ?_
    have hPc := hP.sub (ws' := (wX q cI n S P x)) [0, 1, 2, 3, 4, 5, 6, 7, 8, 9, 10, 11, 12, 13, 14, 15] rfl
    have hDc := hD.sub (ws' := (wX q cI n S P x)) [0, 1, 2, 3, 4, 5, 6, 7, 8, 9, 10, 11, 12, 13, 14, 15] (by decide) rfl
    refine kx_i (va_runV (As := [.int (nI a), .int (nI t)]) (rest := [.ref (q 13)]) ⟨hx, hb, hml, hown, hts⟩ ((c_seatOf l D cI cZ q n S P x a t (hn1) (hn5) (hS1) (hS4) (hP5) (hP64)) H.size) (cwV 2 hts (gV wd153 wd155 sl_DecreePool_seatOf wd1 wd156) rfl rfl rfl (by decide +kernel) ⟨Nat.le_of_ble_eq_true rfl, Nat.le_of_ble_eq_true rfl⟩) ⟨fb_PW, va_recv (q0 := 0) (ci := 0) hK hPc rfl rfl, pre_PW hK hPc hDc hZ⟩ rfl rfl hl.1 rfl (lv_room (Nat.le_of_ble_eq_true rfl)) dDecreePool_learned_16 ⟨Nat.zero_le _, Nat.zero_le _⟩) hP hD hS hA [0, 1, 2, 3, 4, 5, 6, 7, 8, 9, 10, 11, 12, 13, 14, 15] [] rfl rfl (by decide) (by decide) (fun r w1 H locs hw hP hD hS => ?_)
    obtain ⟨rfl, rfl⟩ := hw
    have hP : va_P D vwCl (wX q cI n S P x) H := hP
    have hD : va_D A (wX q cI n S P x) := hD
    have hPc := hP.sub (ws' := (wLe q cI n (n * S) (hq n S (x.2 0)) (sq S (x.1 11)))) [13, 14, 15] rfl
    have hDc := hD.sub (ws' := (wLe q cI n (n * S) (hq n S (x.2 0)) (sq S (x.1 11)))) [13, 14, 15] (by decide) rfl
    refine kx_i (va_runV (As := [.int (nI (a * S + t))]) (rest := []) ⟨hx, hb, hml, hown, hts⟩ ((c_decree l D cI cZ q n (n * S) (hq n S (x.2 0)) (sq S (x.1 11)) (a * S + t) (L20 hn5 hS4) (seat_lt ha ht)) H.size) (cwV 1 hts (gV wd325 wd326 wd327 wd6 wd328) rfl rfl rfl (by decide +kernel) ⟨Nat.le_of_ble_eq_true rfl, Nat.le_of_ble_eq_true rfl⟩) ⟨fb_PW, va_recv (q0 := 0) (ci := 4) hK hPc rfl rfl, pre_PW hK hPc hDc hZ⟩ rfl rfl hl.1 rfl (lv_room (Nat.le_of_ble_eq_true rfl)) dDecreePool_learned_19 ⟨Nat.zero_le _, Nat.zero_le _⟩) hP hD hS hA [13, 14, 15] [0, 1, 2, 3, 4, 5, 6, 7, 8, 9, 10, 11, 12] rfl rfl (by decide) (by decide) (fun r w1 H locs hw hP hD hS => ?_)
    obtain ⟨rfl, rfl⟩ := hw
    have hP : va_P D vwCl (wX q cI n S P x) H := hP
    have hD : va_D A (wX q cI n S P x) := hD
    refine lv_topi (nm_r (sq_at ht) ?_)
    refine lv_goto (tgt := 26) hx hb dDecreePool_learned_22 (by decide) ?_
    exact W.iret (v := x.1 11 a t) hx hb hr (fun t9 ht9 hW9 => ⟨⟨x.1 11 a t, (wX q cI n S P x), rfl, ⟨by unfold aLearned; rw [if_pos h3, ix_nI ha (by omega), ix_nI ht (by omega)], rfl⟩, by rw [ht9]; exact hP, va_K.moved hW9.alike hK, hD⟩, hS.F ht9⟩) hS.2.2 dDecreePool_learned_26
  · have hP : va_P D vwCl (wX q cI n S P x) H := hP
    have hD : va_D A (wX q cI n S P x) := hD
    refine lv_if_eq (tgt := 25) hx hb dDecreePool_learned_6 (by decide) (fun _ => ?_) (fun h9 => absurd (by decide) h9)
    refine lv_iconst (v := (-1)) hx hb dDecreePool_learned_25 (by decide) ?_
    exact W.iret (v := (-1)) hx hb hr (fun t9 ht9 hW9 => ⟨⟨(-1), (wX q cI n S P x), rfl, ⟨by unfold aLearned; rw [if_neg h3], rfl⟩, by rw [ht9]; exact hP, va_K.moved hW9.alike hK, hD⟩, hS.F ht9⟩) hS.2.2 dDecreePool_learned_26
theorem dDecreePool_acceptor_0 : decode cDecreePool_acceptor 0 = .ok (.aload_n 0, 1) := by decide +kernel
theorem dDecreePool_acceptor_1 : decode cDecreePool_acceptor 1 = .ok (.iload_n 1, 1) := by decide +kernel
theorem dDecreePool_acceptor_2 : decode cDecreePool_acceptor 2 = .ok (.iload_n 2, 1) := by decide +kernel
theorem dDecreePool_acceptor_3 : decode cDecreePool_acceptor 3 = .ok (.invokevirtual 61, 3) := by decide +kernel
theorem dDecreePool_acceptor_6 : decode cDecreePool_acceptor 6 = .ok (.ifCond .ne 5, 3) := by decide +kernel
theorem dDecreePool_acceptor_9 : decode cDecreePool_acceptor 9 = .ok (.iconst (-1), 1) := by decide +kernel
theorem dDecreePool_acceptor_10 : decode cDecreePool_acceptor 10 = .ok (.ireturn, 1) := by decide +kernel
theorem dDecreePool_acceptor_11 : decode cDecreePool_acceptor 11 = .ok (.aload_n 0, 1) := by decide +kernel
theorem dDecreePool_acceptor_12 : decode cDecreePool_acceptor 12 = .ok (.iload_n 1, 1) := by decide +kernel
theorem dDecreePool_acceptor_13 : decode cDecreePool_acceptor 13 = .ok (.iload_n 2, 1) := by decide +kernel
theorem dDecreePool_acceptor_14 : decode cDecreePool_acceptor 14 = .ok (.invokevirtual 69, 3) := by decide +kernel
theorem dDecreePool_acceptor_17 : decode cDecreePool_acceptor 17 = .ok (.istore 4, 2) := by decide +kernel
theorem dDecreePool_acceptor_19 : decode cDecreePool_acceptor 19 = .ok (.iload_n 3, 1) := by decide +kernel
theorem dDecreePool_acceptor_20 : decode cDecreePool_acceptor 20 = .ok (.tableswitch 58 0 2 #[28, 38, 48], 28) := by decide +kernel
theorem dDecreePool_acceptor_48 : decode cDecreePool_acceptor 48 = .ok (.aload_n 0, 1) := by decide +kernel
theorem dDecreePool_acceptor_49 : decode cDecreePool_acceptor 49 = .ok (.getfield 41, 3) := by decide +kernel
theorem dDecreePool_acceptor_52 : decode cDecreePool_acceptor 52 = .ok (.iload 4, 2) := by decide +kernel
theorem dDecreePool_acceptor_54 : decode cDecreePool_acceptor 54 = .ok (.invokevirtual 125, 3) := by decide +kernel
theorem dDecreePool_acceptor_57 : decode cDecreePool_acceptor 57 = .ok (.ireturn, 1) := by decide +kernel
theorem dDecreePool_acceptor_58 : decode cDecreePool_acceptor 58 = .ok (.aload_n 0, 1) := by decide +kernel
theorem dDecreePool_acceptor_59 : decode cDecreePool_acceptor 59 = .ok (.getfield 41, 3) := by decide +kernel
theorem dDecreePool_acceptor_62 : decode cDecreePool_acceptor 62 = .ok (.iload 4, 2) := by decide +kernel
theorem dDecreePool_acceptor_64 : decode cDecreePool_acceptor 64 = .ok (.invokevirtual 128, 3) := by decide +kernel
theorem dDecreePool_acceptor_67 : decode cDecreePool_acceptor 67 = .ok (.ireturn, 1) := by decide +kernel
theorem dDecreePool_acceptor_68 : decode cDecreePool_acceptor 68 = .ok (.aload_n 0, 1) := by decide +kernel
theorem dDecreePool_acceptor_69 : decode cDecreePool_acceptor 69 = .ok (.getfield 41, 3) := by decide +kernel
theorem dDecreePool_acceptor_72 : decode cDecreePool_acceptor 72 = .ok (.iload 4, 2) := by decide +kernel
theorem dDecreePool_acceptor_74 : decode cDecreePool_acceptor 74 = .ok (.invokevirtual 131, 3) := by decide +kernel
theorem dDecreePool_acceptor_77 : decode cDecreePool_acceptor 77 = .ok (.ireturn, 1) := by decide +kernel
theorem dDecreePool_acceptor_78 : decode cDecreePool_acceptor 78 = .ok (.iconst (-1), 1) := by decide +kernel
theorem dDecreePool_acceptor_79 : decode cDecreePool_acceptor 79 = .ok (.ireturn, 1) := by decide +kernel
set_option maxRecDepth 100000 in
set_option maxHeartbeats 4000000 in
theorem c_acceptor (l : Launch) (D : va_G) (cI cZ : ClassId) (q : Nat → Nat) (n : Nat) (S : Nat) (P : Nat) (x : St) (nd : Int32) (sl : Int32) (wt : Int32) (hn1 : 1 ≤ n) (hn5 : n ≤ 5) (hS1 : 1 ≤ S) (hS4 : S ≤ 4) (hP5 : 5 ≤ P) (hP64 : P ≤ 64) : MI l D [(cI, .int), (cZ, .boolean)] yDecreePool_acceptor wsDecreePool_acceptor ({ frames := 3, cells := 0, slots := 0, locals := 65 }) [.ref (q 0), .int nd, .int sl, .int wt] (wX q cI n S P x) (fun r w => r = aAcc n S x nd sl wt ∧ w = (wX q cI n S P x)) := by
  intro sz
  refine Met.ofW (cc := cDecreePool_acceptor) (maxL := 5) (ret := (Option.some .int)) (by decide) rfl ?_
  intro p e s m args below meth c s₁ B hml hv
  obtain ⟨rfl, hsz, hP, hK, hD0, hZ⟩ := hv
  have hx := B.exec
  have hb := B.bytes
  have hr := B.returns
  have hts := atoms_spec (ws := wsDecreePool_acceptor) B.pre
  have hown : s.vm.findClass RDecreePool = some m.cls := findClass_of_methodNamed B.named
  have hlocks := B.notSynchronized
  subst hsz
  have hD := hD0.self (sz := s.heap.size)
  generalize hAe : va_A (wX q cI n S P x) s.heap.size = A at hD ⊢
  have hA : ∀ q : Nat, s.heap.size ≤ q → A q := fun q h => by rw [← hAe]; exact Or.inr h
  have hS : va_S A s.heap s.heap [] := va_S.rf
  have hP : va_P D vwCl (wX q cI n S P x) s.heap := hP
  have hl := lv_entry ([.ref (q 0), .int nd, .int sl, .int wt]) (n := 5) (Nat.le_of_ble_eq_true rfl)
  rw [lg_entry_eq]
  generalize (lg_sl ([.ref (q 0), .int nd, .int sl, .int wt]) ++ List.replicate (5 - (lg_sl ([.ref (q 0), .int nd, .int sl, .int wt])).length) Slot.unset).toArray = ls at hl ⊢
  have hl : lv_has ls 5 [(0, .ref (q 0)), (1, .int nd), (2, .int sl), (3, .int wt)] := hl
  refine lv_aload_n hx hb dDecreePool_acceptor_0 rfl (lv_at hl 0 rfl) ?_
  refine lv_iload_n hx hb dDecreePool_acceptor_1 rfl (lv_at hl 1 rfl) ?_
  refine lv_iload_n hx hb dDecreePool_acceptor_2 rfl (lv_at hl 2 rfl) ?_
  have hPc := hP.sub (ws' := (wX q cI n S P x)) [0, 1, 2, 3, 4, 5, 6, 7, 8, 9, 10, 11, 12, 13, 14, 15] rfl
  have hDc := hD.sub (ws' := (wX q cI n S P x)) [0, 1, 2, 3, 4, 5, 6, 7, 8, 9, 10, 11, 12, 13, 14, 15] (by decide) rfl
  refine kx_i (va_runV (As := [.int nd, .int sl]) (rest := []) ⟨hx, hb, hml, hown, hts⟩ ((c_hasSeat l D cI cZ q n S P x nd sl (hn1) (hn5) (hS1) (hS4) (hP5) (hP64)) s.heap.size) (cwV 2 hts (gV wd137 wd139 sl_DecreePool_hasSeat wd1 wd140) rfl rfl rfl (by decide +kernel) ⟨Nat.le_of_ble_eq_true rfl, Nat.le_of_ble_eq_true rfl⟩) ⟨fb_PW, va_recv (q0 := 0) (ci := 0) hK hPc rfl rfl, pre_PW hK hPc hDc hZ⟩ rfl rfl hl.1 rfl (lv_room (Nat.le_of_ble_eq_true rfl)) dDecreePool_acceptor_3 ⟨Nat.zero_le _, Nat.zero_le _⟩) hP hD hS hA [0, 1, 2, 3, 4, 5, 6, 7, 8, 9, 10, 11, 12, 13, 14, 15] [] rfl rfl (by decide) (by decide) (fun r w1 H locs hw hP hD hS => ?_)
  rcases hw with ⟨rfl, h3, rfl⟩ | ⟨rfl, h3, rfl⟩
  · have hP : va_P D vwCl (wX q cI n S P x) H := hP
    have hD : va_D A (wX q cI n S P x) := hD
    obtain ⟨a, ha, rfl⟩ := okN_of (show n < 2 ^ 31 by omega) h3.1
    obtain ⟨t, ht, rfl⟩ := okN_of (show S < 2 ^ 31 by omega) h3.2
    refine lv_if_ne (tgt := 11) hx hb dDecreePool_acceptor_6 (by decide) (fun _ => ?_) (fun h9 => absurd h9 (by decide))
    refine lv_aload_n hx hb dDecreePool_acceptor_11 rfl (lv_at hl 0 rfl) ?_
    refine lv_iload_n hx hb dDecreePool_acceptor_12 rfl (lv_at hl 1 rfl) ?_
    refine lv_iload_n hx hb dDecreePool_acceptor_13 rfl (lv_at hl 2 rfl) ?_
    have hPc := hP.sub (ws' := (wX q cI n S P x)) [0, 1, 2, 3, 4, 5, 6, 7, 8, 9, 10, 11, 12, 13, 14, 15] rfl
    have hDc := hD.sub (ws' := (wX q cI n S P x)) [0, 1, 2, 3, 4, 5, 6, 7, 8, 9, 10, 11, 12, 13, 14, 15] (by decide) rfl
    refine kx_i (va_runV (As := [.int (nI a), .int (nI t)]) (rest := []) ⟨hx, hb, hml, hown, hts⟩ ((c_seatOf l D cI cZ q n S P x a t (hn1) (hn5) (hS1) (hS4) (hP5) (hP64)) H.size) (cwV 2 hts (gV wd153 wd155 sl_DecreePool_seatOf wd1 wd156) rfl rfl rfl (by decide +kernel) ⟨Nat.le_of_ble_eq_true rfl, Nat.le_of_ble_eq_true rfl⟩) ⟨fb_PW, va_recv (q0 := 0) (ci := 0) hK hPc rfl rfl, pre_PW hK hPc hDc hZ⟩ rfl rfl hl.1 rfl (lv_room (Nat.le_of_ble_eq_true rfl)) dDecreePool_acceptor_14 ⟨Nat.zero_le _, Nat.zero_le _⟩) hP hD hS hA [0, 1, 2, 3, 4, 5, 6, 7, 8, 9, 10, 11, 12, 13, 14, 15] [] rfl rfl (by decide) (by decide) (fun r w1 H locs hw hP hD hS => ?_)
    obtain ⟨rfl, rfl⟩ := hw
    have hP : va_P D vwCl (wX q cI n S P x) H := hP
    have hD : va_D A (wX q cI n S P x) := hD
    refine lv_istore hx hb dDecreePool_acceptor_17 hl (by decide) rfl (fun ls hl => ?_)
    have hl : lv_has ls 5 [(4, .int (nI (a * S + t))), (0, .ref (q 0)), (1, .int (nI a)), (2, .int (nI t)), (3, .int wt)] := hl
    refine lv_iload_n hx hb dDecreePool_acceptor_19 rfl (lv_at hl 4 rfl) ?_
    by_cases k20_0 : wt = nI 0
    · refine lv_topi (nm_r (k20_0) ?_)
      refine lv_tableIn (tgt := 48) hx hb dDecreePool_acceptor_20 (by decide) (by decide) rfl (by decide) ?_
      refine lv_aload_n hx hb dDecreePool_acceptor_48 rfl (lv_at hl 1 rfl) ?_
      refine va_get (D := D) (ci := 0) (v := .ref (q 9)) (C := RDecreePool) (T := TDecreePool) (N := 9) hx hb hts (fun w h => mc (uDecreePool_in w h)) hown hK hP 0 rfl rfl 4 (by decide) (hts _ (mc wd109)) (fun _ h9 => h9) rfl dDecreePool_acceptor_49 ?_
      refine lv_iload hx hb dDecreePool_acceptor_52 (lv_at hl 0 rfl) ?_
      have hPc := hP.sub (ws' := (wAc q cI n S (n * S) (sq S (x.1 8)) (sq S (x.1 9)) (sq S (x.1 10)))) [9, 10, 11, 12] rfl
      have hDc := hD.sub (ws' := (wAc q cI n S (n * S) (sq S (x.1 8)) (sq S (x.1 9)) (sq S (x.1 10)))) [9, 10, 11, 12] (by decide) rfl
      refine kx_i (va_runV (As := [.int (nI (a * S + t))]) (rest := []) ⟨hx, hb, hml, hown, hts⟩ ((c_ac_promisedBallot l D cI cZ q n S (n * S) (sq S (x.1 8)) (sq S (x.1 9)) (sq S (x.1 10)) (a * S + t) (L20 hn5 hS4) (seat_lt ha ht)) H.size) (cwV 1 hts (gV wd337 wd338 wd339 wd5 wd340) rfl rfl rfl (by decide +kernel) ⟨Nat.le_of_ble_eq_true rfl, Nat.le_of_ble_eq_true rfl⟩) ⟨fb_PW, va_recv (q0 := 0) (ci := 3) hK hPc rfl rfl, pre_PW hK hPc hDc hZ⟩ rfl rfl hl.1 rfl (lv_room (Nat.le_of_ble_eq_true rfl)) dDecreePool_acceptor_54 ⟨Nat.zero_le _, Nat.zero_le _⟩) hP hD hS hA [9, 10, 11, 12] [0, 1, 2, 3, 4, 5, 6, 7, 8, 13, 14, 15] rfl rfl (by decide) (by decide) (fun r w1 H locs hw hP hD hS => ?_)
      obtain ⟨rfl, rfl⟩ := hw
      have hP : va_P D vwCl (wX q cI n S P x) H := hP.sub [0, 1, 2, 3, 4, 5, 6, 7, 8, 12, 13, 14, 15, 9, 10, 11] rfl
      have hD : va_D A (wX q cI n S P x) := hD.sub [0, 1, 2, 3, 4, 5, 6, 7, 8, 12, 13, 14, 15, 9, 10, 11] (by decide) rfl
      refine lv_topi (nm_r (sq_at ht) ?_)
      exact W.iret (v := x.1 8 a t) hx hb hr (fun t9 ht9 hW9 => ⟨⟨x.1 8 a t, (wX q cI n S P x), rfl, ⟨by unfold aAcc; rw [if_pos h3, ix_nI ha (by omega), ix_nI ht (by omega), if_pos k20_0], rfl⟩, by rw [ht9]; exact hP, va_K.moved hW9.alike hK, hD⟩, hS.F ht9⟩) hS.2.2 dDecreePool_acceptor_57
    by_cases k20_1 : wt = nI 1
    · refine lv_topi (nm_r (k20_1) ?_)
      refine lv_tableIn (tgt := 58) hx hb dDecreePool_acceptor_20 (by decide) (by decide) rfl (by decide) ?_
      refine lv_aload_n hx hb dDecreePool_acceptor_58 rfl (lv_at hl 1 rfl) ?_
      refine va_get (D := D) (ci := 0) (v := .ref (q 9)) (C := RDecreePool) (T := TDecreePool) (N := 9) hx hb hts (fun w h => mc (uDecreePool_in w h)) hown hK hP 0 rfl rfl 4 (by decide) (hts _ (mc wd109)) (fun _ h9 => h9) rfl dDecreePool_acceptor_59 ?_
      refine lv_iload hx hb dDecreePool_acceptor_62 (lv_at hl 0 rfl) ?_
      have hPc := hP.sub (ws' := (wAc q cI n S (n * S) (sq S (x.1 8)) (sq S (x.1 9)) (sq S (x.1 10)))) [9, 10, 11, 12] rfl
      have hDc := hD.sub (ws' := (wAc q cI n S (n * S) (sq S (x.1 8)) (sq S (x.1 9)) (sq S (x.1 10)))) [9, 10, 11, 12] (by decide) rfl
      refine kx_i (va_runV (As := [.int (nI (a * S + t))]) (rest := []) ⟨hx, hb, hml, hown, hts⟩ ((c_ac_acceptedBallot l D cI cZ q n S (n * S) (sq S (x.1 8)) (sq S (x.1 9)) (sq S (x.1 10)) (a * S + t) (L20 hn5 hS4) (seat_lt ha ht)) H.size) (cwV 1 hts (gV wd240 wd241 wd242 wd5 wd243) rfl rfl rfl (by decide +kernel) ⟨Nat.le_of_ble_eq_true rfl, Nat.le_of_ble_eq_true rfl⟩) ⟨fb_PW, va_recv (q0 := 0) (ci := 3) hK hPc rfl rfl, pre_PW hK hPc hDc hZ⟩ rfl rfl hl.1 rfl (lv_room (Nat.le_of_ble_eq_true rfl)) dDecreePool_acceptor_64 ⟨Nat.zero_le _, Nat.zero_le _⟩) hP hD hS hA [9, 10, 11, 12] [0, 1, 2, 3, 4, 5, 6, 7, 8, 13, 14, 15] rfl rfl (by decide) (by decide) (fun r w1 H locs hw hP hD hS => ?_)
      obtain ⟨rfl, rfl⟩ := hw
      have hP : va_P D vwCl (wX q cI n S P x) H := hP.sub [0, 1, 2, 3, 4, 5, 6, 7, 8, 12, 13, 14, 15, 9, 10, 11] rfl
      have hD : va_D A (wX q cI n S P x) := hD.sub [0, 1, 2, 3, 4, 5, 6, 7, 8, 12, 13, 14, 15, 9, 10, 11] (by decide) rfl
      refine lv_topi (nm_r (sq_at ht) ?_)
      exact W.iret (v := x.1 9 a t) hx hb hr (fun t9 ht9 hW9 => ⟨⟨x.1 9 a t, (wX q cI n S P x), rfl, ⟨by unfold aAcc; rw [if_pos h3, ix_nI ha (by omega), ix_nI ht (by omega), if_neg k20_0, if_pos k20_1], rfl⟩, by rw [ht9]; exact hP, va_K.moved hW9.alike hK, hD⟩, hS.F ht9⟩) hS.2.2 dDecreePool_acceptor_67
    by_cases k20_2 : wt = nI 2
    · refine lv_topi (nm_r (k20_2) ?_)
      refine lv_tableIn (tgt := 68) hx hb dDecreePool_acceptor_20 (by decide) (by decide) rfl (by decide) ?_
      refine lv_aload_n hx hb dDecreePool_acceptor_68 rfl (lv_at hl 1 rfl) ?_
      refine va_get (D := D) (ci := 0) (v := .ref (q 9)) (C := RDecreePool) (T := TDecreePool) (N := 9) hx hb hts (fun w h => mc (uDecreePool_in w h)) hown hK hP 0 rfl rfl 4 (by decide) (hts _ (mc wd109)) (fun _ h9 => h9) rfl dDecreePool_acceptor_69 ?_
      refine lv_iload hx hb dDecreePool_acceptor_72 (lv_at hl 0 rfl) ?_
      have hPc := hP.sub (ws' := (wAc q cI n S (n * S) (sq S (x.1 8)) (sq S (x.1 9)) (sq S (x.1 10)))) [9, 10, 11, 12] rfl
      have hDc := hD.sub (ws' := (wAc q cI n S (n * S) (sq S (x.1 8)) (sq S (x.1 9)) (sq S (x.1 10)))) [9, 10, 11, 12] (by decide) rfl
      refine kx_i (va_runV (As := [.int (nI (a * S + t))]) (rest := []) ⟨hx, hb, hml, hown, hts⟩ ((c_ac_acceptedValue l D cI cZ q n S (n * S) (sq S (x.1 8)) (sq S (x.1 9)) (sq S (x.1 10)) (a * S + t) (L20 hn5 hS4) (seat_lt ha ht)) H.size) (cwV 1 hts (gV wd236 wd237 wd238 wd5 wd239) rfl rfl rfl (by decide +kernel) ⟨Nat.le_of_ble_eq_true rfl, Nat.le_of_ble_eq_true rfl⟩) ⟨fb_PW, va_recv (q0 := 0) (ci := 3) hK hPc rfl rfl, pre_PW hK hPc hDc hZ⟩ rfl rfl hl.1 rfl (lv_room (Nat.le_of_ble_eq_true rfl)) dDecreePool_acceptor_74 ⟨Nat.zero_le _, Nat.zero_le _⟩) hP hD hS hA [9, 10, 11, 12] [0, 1, 2, 3, 4, 5, 6, 7, 8, 13, 14, 15] rfl rfl (by decide) (by decide) (fun r w1 H locs hw hP hD hS => ?_)
      obtain ⟨rfl, rfl⟩ := hw
      have hP : va_P D vwCl (wX q cI n S P x) H := hP.sub [0, 1, 2, 3, 4, 5, 6, 7, 8, 12, 13, 14, 15, 9, 10, 11] rfl
      have hD : va_D A (wX q cI n S P x) := hD.sub [0, 1, 2, 3, 4, 5, 6, 7, 8, 12, 13, 14, 15, 9, 10, 11] (by decide) rfl
      refine lv_topi (nm_r (sq_at ht) ?_)
      exact W.iret (v := x.1 10 a t) hx hb hr (fun t9 ht9 hW9 => ⟨⟨x.1 10 a t, (wX q cI n S P x), rfl, ⟨by unfold aAcc; rw [if_pos h3, ix_nI ha (by omega), ix_nI ht (by omega), if_neg k20_0, if_neg k20_1, if_pos k20_2], rfl⟩, by rw [ht9]; exact hP, va_K.moved hW9.alike hK, hD⟩, hS.F ht9⟩) hS.2.2 dDecreePool_acceptor_77
    refine lv_tableOut (tgt := 78) hx hb dDecreePool_acceptor_20 (tb_out 0 2 (by intro j h1 h2; rcases (show j = 0 ∨ j = 1 ∨ j = 2 by omega) with rfl | rfl | rfl <;> assumption)) (by decide) ?_
    refine lv_iconst (v := (-1)) hx hb dDecreePool_acceptor_78 (by decide) ?_
    exact W.iret (v := (-1)) hx hb hr (fun t9 ht9 hW9 => ⟨⟨(-1), (wX q cI n S P x), rfl, ⟨by unfold aAcc; rw [if_pos h3, ix_nI ha (by omega), ix_nI ht (by omega), if_neg k20_0, if_neg k20_1, if_neg k20_2], rfl⟩, by rw [ht9]; exact hP, va_K.moved hW9.alike hK, hD⟩, hS.F ht9⟩) hS.2.2 dDecreePool_acceptor_79
  · have hP : va_P D vwCl (wX q cI n S P x) H := hP
    have hD : va_D A (wX q cI n S P x) := hD
    refine lv_if_ne (tgt := 11) hx hb dDecreePool_acceptor_6 (by decide) (fun h9 => absurd (by decide) h9) (fun _ => ?_)
    refine lv_iconst (v := (-1)) hx hb dDecreePool_acceptor_9 (by decide) ?_
    exact W.iret (v := (-1)) hx hb hr (fun t9 ht9 hW9 => ⟨⟨(-1), (wX q cI n S P x), rfl, ⟨by unfold aAcc; rw [if_neg h3], rfl⟩, by rw [ht9]; exact hP, va_K.moved hW9.alike hK, hD⟩, hS.F ht9⟩) hS.2.2 dDecreePool_acceptor_10
theorem dDecreePool_proposer_0 : decode cDecreePool_proposer 0 = .ok (.aload_n 0, 1) := by decide +kernel
theorem dDecreePool_proposer_1 : decode cDecreePool_proposer 1 = .ok (.iload_n 1, 1) := by decide +kernel
theorem dDecreePool_proposer_2 : decode cDecreePool_proposer 2 = .ok (.iload_n 2, 1) := by decide +kernel
theorem dDecreePool_proposer_3 : decode cDecreePool_proposer 3 = .ok (.invokevirtual 61, 3) := by decide +kernel
theorem dDecreePool_proposer_6 : decode cDecreePool_proposer 6 = .ok (.ifCond .ne 5, 3) := by decide +kernel
theorem dDecreePool_proposer_9 : decode cDecreePool_proposer 9 = .ok (.iconst (-1), 1) := by decide +kernel
theorem dDecreePool_proposer_10 : decode cDecreePool_proposer 10 = .ok (.ireturn, 1) := by decide +kernel
theorem dDecreePool_proposer_11 : decode cDecreePool_proposer 11 = .ok (.aload_n 0, 1) := by decide +kernel
theorem dDecreePool_proposer_12 : decode cDecreePool_proposer 12 = .ok (.iload_n 1, 1) := by decide +kernel
theorem dDecreePool_proposer_13 : decode cDecreePool_proposer 13 = .ok (.iload_n 2, 1) := by decide +kernel
theorem dDecreePool_proposer_14 : decode cDecreePool_proposer 14 = .ok (.invokevirtual 69, 3) := by decide +kernel
theorem dDecreePool_proposer_17 : decode cDecreePool_proposer 17 = .ok (.istore 4, 2) := by decide +kernel
theorem dDecreePool_proposer_19 : decode cDecreePool_proposer 19 = .ok (.iload_n 3, 1) := by decide +kernel
theorem dDecreePool_proposer_20 : decode cDecreePool_proposer 20 = .ok (.tableswitch 103 0 4 #[36, 46, 56, 66, 76], 36) := by decide +kernel
theorem dDecreePool_proposer_56 : decode cDecreePool_proposer 56 = .ok (.aload_n 0, 1) := by decide +kernel
theorem dDecreePool_proposer_57 : decode cDecreePool_proposer 57 = .ok (.getfield 34, 3) := by decide +kernel
theorem dDecreePool_proposer_60 : decode cDecreePool_proposer 60 = .ok (.iload 4, 2) := by decide +kernel
theorem dDecreePool_proposer_62 : decode cDecreePool_proposer 62 = .ok (.invokevirtual 134, 3) := by decide +kernel
theorem dDecreePool_proposer_65 : decode cDecreePool_proposer 65 = .ok (.ireturn, 1) := by decide +kernel
theorem dDecreePool_proposer_66 : decode cDecreePool_proposer 66 = .ok (.aload_n 0, 1) := by decide +kernel
theorem dDecreePool_proposer_67 : decode cDecreePool_proposer 67 = .ok (.getfield 34, 3) := by decide +kernel
theorem dDecreePool_proposer_70 : decode cDecreePool_proposer 70 = .ok (.iload 4, 2) := by decide +kernel
theorem dDecreePool_proposer_72 : decode cDecreePool_proposer 72 = .ok (.invokevirtual 73, 3) := by decide +kernel
theorem dDecreePool_proposer_75 : decode cDecreePool_proposer 75 = .ok (.ireturn, 1) := by decide +kernel
theorem dDecreePool_proposer_76 : decode cDecreePool_proposer 76 = .ok (.aload_n 0, 1) := by decide +kernel
theorem dDecreePool_proposer_77 : decode cDecreePool_proposer 77 = .ok (.getfield 34, 3) := by decide +kernel
theorem dDecreePool_proposer_80 : decode cDecreePool_proposer 80 = .ok (.iload 4, 2) := by decide +kernel
theorem dDecreePool_proposer_82 : decode cDecreePool_proposer 82 = .ok (.invokevirtual 137, 3) := by decide +kernel
theorem dDecreePool_proposer_85 : decode cDecreePool_proposer 85 = .ok (.ireturn, 1) := by decide +kernel
theorem dDecreePool_proposer_86 : decode cDecreePool_proposer 86 = .ok (.aload_n 0, 1) := by decide +kernel
theorem dDecreePool_proposer_87 : decode cDecreePool_proposer 87 = .ok (.getfield 34, 3) := by decide +kernel
theorem dDecreePool_proposer_90 : decode cDecreePool_proposer 90 = .ok (.iload 4, 2) := by decide +kernel
theorem dDecreePool_proposer_92 : decode cDecreePool_proposer 92 = .ok (.invokevirtual 140, 3) := by decide +kernel
theorem dDecreePool_proposer_95 : decode cDecreePool_proposer 95 = .ok (.ireturn, 1) := by decide +kernel
theorem dDecreePool_proposer_96 : decode cDecreePool_proposer 96 = .ok (.aload_n 0, 1) := by decide +kernel
theorem dDecreePool_proposer_97 : decode cDecreePool_proposer 97 = .ok (.getfield 34, 3) := by decide +kernel
theorem dDecreePool_proposer_100 : decode cDecreePool_proposer 100 = .ok (.iload 4, 2) := by decide +kernel
theorem dDecreePool_proposer_102 : decode cDecreePool_proposer 102 = .ok (.invokevirtual 134, 3) := by decide +kernel
theorem dDecreePool_proposer_105 : decode cDecreePool_proposer 105 = .ok (.iconst 2, 1) := by decide +kernel
theorem dDecreePool_proposer_106 : decode cDecreePool_proposer 106 = .ok (.if_icmp .ne 15, 3) := by decide +kernel
theorem dDecreePool_proposer_109 : decode cDecreePool_proposer 109 = .ok (.aload_n 0, 1) := by decide +kernel
theorem dDecreePool_proposer_110 : decode cDecreePool_proposer 110 = .ok (.getfield 34, 3) := by decide +kernel
theorem dDecreePool_proposer_113 : decode cDecreePool_proposer 113 = .ok (.iload 4, 2) := by decide +kernel
theorem dDecreePool_proposer_115 : decode cDecreePool_proposer 115 = .ok (.invokevirtual 143, 3) := by decide +kernel
theorem dDecreePool_proposer_118 : decode cDecreePool_proposer 118 = .ok (.goto 4, 3) := by decide +kernel
theorem dDecreePool_proposer_121 : decode cDecreePool_proposer 121 = .ok (.iconst 0, 1) := by decide +kernel
theorem dDecreePool_proposer_122 : decode cDecreePool_proposer 122 = .ok (.ireturn, 1) := by decide +kernel
theorem dDecreePool_proposer_123 : decode cDecreePool_proposer 123 = .ok (.iconst (-1), 1) := by decide +kernel
theorem dDecreePool_proposer_124 : decode cDecreePool_proposer 124 = .ok (.ireturn, 1) := by decide +kernel
set_option maxRecDepth 100000 in
set_option maxHeartbeats 4000000 in
theorem c_proposer (l : Launch) (D : va_G) (cI cZ : ClassId) (q : Nat → Nat) (n : Nat) (S : Nat) (P : Nat) (x : St) (nd : Int32) (sl : Int32) (wt : Int32) (hn1 : 1 ≤ n) (hn5 : n ≤ 5) (hS1 : 1 ≤ S) (hS4 : S ≤ 4) (hP5 : 5 ≤ P) (hP64 : P ≤ 64) (hI : Ibit x) : MI l D [(cI, .int), (cZ, .boolean)] yDecreePool_proposer wsDecreePool_proposer ({ frames := 3, cells := 0, slots := 0, locals := 65 }) [.ref (q 0), .int nd, .int sl, .int wt] (wX q cI n S P x) (fun r w => r = aProp n S x nd sl wt ∧ w = (wX q cI n S P x)) := by
  intro sz
  refine Met.ofW (cc := cDecreePool_proposer) (maxL := 5) (ret := (Option.some .int)) (by decide) rfl ?_
  intro p e s m args below meth c s₁ B hml hv
  obtain ⟨rfl, hsz, hP, hK, hD0, hZ⟩ := hv
  have hx := B.exec
  have hb := B.bytes
  have hr := B.returns
  have hts := atoms_spec (ws := wsDecreePool_proposer) B.pre
  have hown : s.vm.findClass RDecreePool = some m.cls := findClass_of_methodNamed B.named
  have hlocks := B.notSynchronized
  subst hsz
  have hD := hD0.self (sz := s.heap.size)
  generalize hAe : va_A (wX q cI n S P x) s.heap.size = A at hD ⊢
  have hA : ∀ q : Nat, s.heap.size ≤ q → A q := fun q h => by rw [← hAe]; exact Or.inr h
  have hS : va_S A s.heap s.heap [] := va_S.rf
  have hP : va_P D vwCl (wX q cI n S P x) s.heap := hP
  have hl := lv_entry ([.ref (q 0), .int nd, .int sl, .int wt]) (n := 5) (Nat.le_of_ble_eq_true rfl)
  rw [lg_entry_eq]
  generalize (lg_sl ([.ref (q 0), .int nd, .int sl, .int wt]) ++ List.replicate (5 - (lg_sl ([.ref (q 0), .int nd, .int sl, .int wt])).length) Slot.unset).toArray = ls at hl ⊢
  have hl : lv_has ls 5 [(0, .ref (q 0)), (1, .int nd), (2, .int sl), (3, .int wt)] := hl
  refine lv_aload_n hx hb dDecreePool_proposer_0 rfl (lv_at hl 0 rfl) ?_
  refine lv_iload_n hx hb dDecreePool_proposer_1 rfl (lv_at hl 1 rfl) ?_
  refine lv_iload_n hx hb dDecreePool_proposer_2 rfl (lv_at hl 2 rfl) ?_
  have hPc := hP.sub (ws' := (wX q cI n S P x)) [0, 1, 2, 3, 4, 5, 6, 7, 8, 9, 10, 11, 12, 13, 14, 15] rfl
  have hDc := hD.sub (ws' := (wX q cI n S P x)) [0, 1, 2, 3, 4, 5, 6, 7, 8, 9, 10, 11, 12, 13, 14, 15] (by decide) rfl
  refine kx_i (va_runV (As := [.int nd, .int sl]) (rest := []) ⟨hx, hb, hml, hown, hts⟩ ((c_hasSeat l D cI cZ q n S P x nd sl (hn1) (hn5) (hS1) (hS4) (hP5) (hP64)) s.heap.size) (cwV 2 hts (gV wd137 wd139 sl_DecreePool_hasSeat wd1 wd140) rfl rfl rfl (by decide +kernel) ⟨Nat.le_of_ble_eq_true rfl, Nat.le_of_ble_eq_true rfl⟩) ⟨fb_PW, va_recv (q0 := 0) (ci := 0) hK hPc rfl rfl, pre_PW hK hPc hDc hZ⟩ rfl rfl hl.1 rfl (lv_room (Nat.le_of_ble_eq_true rfl)) dDecreePool_proposer_3 ⟨Nat.zero_le _, Nat.zero_le _⟩) hP hD hS hA [0, 1, 2, 3, 4, 5, 6, 7, 8, 9, 10, 11, 12, 13, 14, 15] [] rfl rfl (by decide) (by decide) (fun r w1 H locs hw hP hD hS => ?_)
  rcases hw with ⟨rfl, h3, rfl⟩ | ⟨rfl, h3, rfl⟩
  · have hP : va_P D vwCl (wX q cI n S P x) H := hP
    have hD : va_D A (wX q cI n S P x) := hD
    obtain ⟨a, ha, rfl⟩ := okN_of (show n < 2 ^ 31 by omega) h3.1
    obtain ⟨t, ht, rfl⟩ := okN_of (show S < 2 ^ 31 by omega) h3.2
    obtain ⟨e1, he1, he2⟩ := hI.1 a t
    refine lv_if_ne (tgt := 11) hx hb dDecreePool_proposer_6 (by decide) (fun _ => ?_) (fun h9 => absurd h9 (by decide))
    refine lv_aload_n hx hb dDecreePool_proposer_11 rfl (lv_at hl 0 rfl) ?_
    refine lv_iload_n hx hb dDecreePool_proposer_12 rfl (lv_at hl 1 rfl) ?_
    refine lv_iload_n hx hb dDecreePool_proposer_13 rfl (lv_at hl 2 rfl) ?_
    have hPc := hP.sub (ws' := (wX q cI n S P x)) [0, 1, 2, 3, 4, 5, 6, 7, 8, 9, 10, 11, 12, 13, 14, 15] rfl
    have hDc := hD.sub (ws' := (wX q cI n S P x)) [0, 1, 2, 3, 4, 5, 6, 7, 8, 9, 10, 11, 12, 13, 14, 15] (by decide) rfl
    refine kx_i (va_runV (As := [.int (nI a), .int (nI t)]) (rest := []) ⟨hx, hb, hml, hown, hts⟩ ((c_seatOf l D cI cZ q n S P x a t (hn1) (hn5) (hS1) (hS4) (hP5) (hP64)) H.size) (cwV 2 hts (gV wd153 wd155 sl_DecreePool_seatOf wd1 wd156) rfl rfl rfl (by decide +kernel) ⟨Nat.le_of_ble_eq_true rfl, Nat.le_of_ble_eq_true rfl⟩) ⟨fb_PW, va_recv (q0 := 0) (ci := 0) hK hPc rfl rfl, pre_PW hK hPc hDc hZ⟩ rfl rfl hl.1 rfl (lv_room (Nat.le_of_ble_eq_true rfl)) dDecreePool_proposer_14 ⟨Nat.zero_le _, Nat.zero_le _⟩) hP hD hS hA [0, 1, 2, 3, 4, 5, 6, 7, 8, 9, 10, 11, 12, 13, 14, 15] [] rfl rfl (by decide) (by decide) (fun r w1 H locs hw hP hD hS => ?_)
    obtain ⟨rfl, rfl⟩ := hw
    have hP : va_P D vwCl (wX q cI n S P x) H := hP
    have hD : va_D A (wX q cI n S P x) := hD
    refine lv_istore hx hb dDecreePool_proposer_17 hl (by decide) rfl (fun ls hl => ?_)
    have hl : lv_has ls 5 [(4, .int (nI (a * S + t))), (0, .ref (q 0)), (1, .int (nI a)), (2, .int (nI t)), (3, .int wt)] := hl
    refine lv_iload_n hx hb dDecreePool_proposer_19 rfl (lv_at hl 4 rfl) ?_
    by_cases k20_0 : wt = nI 0
    · refine lv_topi (nm_r (k20_0) ?_)
      refine lv_tableIn (tgt := 56) hx hb dDecreePool_proposer_20 (by decide) (by decide) rfl (by decide) ?_
      refine lv_aload_n hx hb dDecreePool_proposer_56 rfl (lv_at hl 1 rfl) ?_
      refine va_get (D := D) (ci := 0) (v := .ref (q 3)) (C := RDecreePool) (T := TDecreePool) (N := 9) hx hb hts (fun w h => mc (uDecreePool_in w h)) hown hK hP 0 rfl rfl 3 (by decide) (hts _ (mc wd108)) (fun _ h9 => h9) rfl dDecreePool_proposer_57 ?_
      refine lv_iload hx hb dDecreePool_proposer_60 (lv_at hl 0 rfl) ?_
      have hPc := hP.sub (ws' := (wPr q cI n (n * S) (sq S (x.1 1)) (sq S (x.1 2)) (sq S (x.1 3)) (sq S (x.1 4)) (sq S (x.1 5)))) [3, 4, 5, 6, 7, 8] rfl
      have hDc := hD.sub (ws' := (wPr q cI n (n * S) (sq S (x.1 1)) (sq S (x.1 2)) (sq S (x.1 3)) (sq S (x.1 4)) (sq S (x.1 5)))) [3, 4, 5, 6, 7, 8] (by decide) rfl
      refine kx_i (va_runV (As := [.int (nI (a * S + t))]) (rest := []) ⟨hx, hb, hml, hown, hts⟩ ((c_pr_phase l D cI cZ q n (n * S) (sq S (x.1 1)) (sq S (x.1 2)) (sq S (x.1 3)) (sq S (x.1 4)) (sq S (x.1 5)) (a * S + t) (L20 hn5 hS4) (seat_lt ha ht)) H.size) (cwV 1 hts (gV wd345 wd346 wd347 wd3 wd348) rfl rfl rfl (by decide +kernel) ⟨Nat.le_of_ble_eq_true rfl, Nat.le_of_ble_eq_true rfl⟩) ⟨fb_PW, va_recv (q0 := 0) (ci := 2) hK hPc rfl rfl, pre_PW hK hPc hDc hZ⟩ rfl rfl hl.1 rfl (lv_room (Nat.le_of_ble_eq_true rfl)) dDecreePool_proposer_62 ⟨Nat.zero_le _, Nat.zero_le _⟩) hP hD hS hA [3, 4, 5, 6, 7, 8] [0, 1, 2, 9, 10, 11, 12, 13, 14, 15] rfl rfl (by decide) (by decide) (fun r w1 H locs hw hP hD hS => ?_)
      obtain ⟨rfl, rfl⟩ := hw
      have hP : va_P D vwCl (wX q cI n S P x) H := hP.sub [0, 1, 2, 10, 11, 12, 13, 14, 15, 3, 4, 5, 6, 7, 8, 9] rfl
      have hD : va_D A (wX q cI n S P x) := hD.sub [0, 1, 2, 10, 11, 12, 13, 14, 15, 3, 4, 5, 6, 7, 8, 9] (by decide) rfl
      refine lv_topi (nm_r (sq_at ht) ?_)
      exact W.iret (v := x.1 1 a t) hx hb hr (fun t9 ht9 hW9 => ⟨⟨x.1 1 a t, (wX q cI n S P x), rfl, ⟨by unfold aProp; rw [if_pos h3, ix_nI ha (by omega), ix_nI ht (by omega), if_pos k20_0], rfl⟩, by rw [ht9]; exact hP, va_K.moved hW9.alike hK, hD⟩, hS.F ht9⟩) hS.2.2 dDecreePool_proposer_65
    by_cases k20_1 : wt = nI 1
    · refine lv_topi (nm_r (k20_1) ?_)
      refine lv_tableIn (tgt := 66) hx hb dDecreePool_proposer_20 (by decide) (by decide) rfl (by decide) ?_
      refine lv_aload_n hx hb dDecreePool_proposer_66 rfl (lv_at hl 1 rfl) ?_
      refine va_get (D := D) (ci := 0) (v := .ref (q 3)) (C := RDecreePool) (T := TDecreePool) (N := 9) hx hb hts (fun w h => mc (uDecreePool_in w h)) hown hK hP 0 rfl rfl 3 (by decide) (hts _ (mc wd108)) (fun _ h9 => h9) rfl dDecreePool_proposer_67 ?_
      refine lv_iload hx hb dDecreePool_proposer_70 (lv_at hl 0 rfl) ?_
      have hPc := hP.sub (ws' := (wPr q cI n (n * S) (sq S (x.1 1)) (sq S (x.1 2)) (sq S (x.1 3)) (sq S (x.1 4)) (sq S (x.1 5)))) [3, 4, 5, 6, 7, 8] rfl
      have hDc := hD.sub (ws' := (wPr q cI n (n * S) (sq S (x.1 1)) (sq S (x.1 2)) (sq S (x.1 3)) (sq S (x.1 4)) (sq S (x.1 5)))) [3, 4, 5, 6, 7, 8] (by decide) rfl
      refine kx_i (va_runV (As := [.int (nI (a * S + t))]) (rest := []) ⟨hx, hb, hml, hown, hts⟩ ((c_pr_lastBallot l D cI cZ q n (n * S) (sq S (x.1 1)) (sq S (x.1 2)) (sq S (x.1 3)) (sq S (x.1 4)) (sq S (x.1 5)) (a * S + t) (L20 hn5 hS4) (seat_lt ha ht)) H.size) (cwV 1 hts (gV wd157 wd158 wd159 wd3 wd160) rfl rfl rfl (by decide +kernel) ⟨Nat.le_of_ble_eq_true rfl, Nat.le_of_ble_eq_true rfl⟩) ⟨fb_PW, va_recv (q0 := 0) (ci := 2) hK hPc rfl rfl, pre_PW hK hPc hDc hZ⟩ rfl rfl hl.1 rfl (lv_room (Nat.le_of_ble_eq_true rfl)) dDecreePool_proposer_72 ⟨Nat.zero_le _, Nat.zero_le _⟩) hP hD hS hA [3, 4, 5, 6, 7, 8] [0, 1, 2, 9, 10, 11, 12, 13, 14, 15] rfl rfl (by decide) (by decide) (fun r w1 H locs hw hP hD hS => ?_)
      obtain ⟨rfl, rfl⟩ := hw
      have hP : va_P D vwCl (wX q cI n S P x) H := hP.sub [0, 1, 2, 10, 11, 12, 13, 14, 15, 3, 4, 5, 6, 7, 8, 9] rfl
      have hD : va_D A (wX q cI n S P x) := hD.sub [0, 1, 2, 10, 11, 12, 13, 14, 15, 3, 4, 5, 6, 7, 8, 9] (by decide) rfl
      refine lv_topi (nm_r (sq_at ht) ?_)
      exact W.iret (v := x.1 2 a t) hx hb hr (fun t9 ht9 hW9 => ⟨⟨x.1 2 a t, (wX q cI n S P x), rfl, ⟨by unfold aProp; rw [if_pos h3, ix_nI ha (by omega), ix_nI ht (by omega), if_neg k20_0, if_pos k20_1], rfl⟩, by rw [ht9]; exact hP, va_K.moved hW9.alike hK, hD⟩, hS.F ht9⟩) hS.2.2 dDecreePool_proposer_75
    by_cases k20_2 : wt = nI 2
    · refine lv_topi (nm_r (k20_2) ?_)
      refine lv_tableIn (tgt := 76) hx hb dDecreePool_proposer_20 (by decide) (by decide) rfl (by decide) ?_
      refine lv_aload_n hx hb dDecreePool_proposer_76 rfl (lv_at hl 1 rfl) ?_
      refine va_get (D := D) (ci := 0) (v := .ref (q 3)) (C := RDecreePool) (T := TDecreePool) (N := 9) hx hb hts (fun w h => mc (uDecreePool_in w h)) hown hK hP 0 rfl rfl 3 (by decide) (hts _ (mc wd108)) (fun _ h9 => h9) rfl dDecreePool_proposer_77 ?_
      refine lv_iload hx hb dDecreePool_proposer_80 (lv_at hl 0 rfl) ?_
      have hPc := hP.sub (ws' := (wPr q cI n (n * S) (sq S (x.1 1)) (sq S (x.1 2)) (sq S (x.1 3)) (sq S (x.1 4)) (sq S (x.1 5)))) [3, 4, 5, 6, 7, 8] rfl
      have hDc := hD.sub (ws' := (wPr q cI n (n * S) (sq S (x.1 1)) (sq S (x.1 2)) (sq S (x.1 3)) (sq S (x.1 4)) (sq S (x.1 5)))) [3, 4, 5, 6, 7, 8] (by decide) rfl
      refine kx_i (va_runV (As := [.int (nI (a * S + t))]) (rest := []) ⟨hx, hb, hml, hown, hts⟩ ((c_promises l D cI cZ q n (n * S) (sq S (x.1 1)) (sq S (x.1 2)) (sq S (x.1 3)) (sq S (x.1 4)) (sq S (x.1 5)) (a * S + t) e1 (L20 hn5 hS4) (seat_lt ha ht) (by rw [sq_at ht]; exact he2) (he1)) H.size) (cwV 1 hts (gV wd349 wd249 wd250 wd3 wd251) rfl rfl rfl (by decide +kernel) ⟨Nat.le_of_ble_eq_true rfl, Nat.le_of_ble_eq_true rfl⟩) ⟨fb_PW, va_recv (q0 := 0) (ci := 2) hK hPc rfl rfl, pre_PW hK hPc hDc hZ⟩ rfl rfl hl.1 rfl (lv_room (Nat.le_of_ble_eq_true rfl)) dDecreePool_proposer_82 ⟨Nat.zero_le _, Nat.zero_le _⟩) hP hD hS hA [3, 4, 5, 6, 7, 8] [0, 1, 2, 9, 10, 11, 12, 13, 14, 15] rfl rfl (by decide) (by decide) (fun r w1 H locs hw hP hD hS => ?_)
      obtain ⟨rfl, rfl⟩ := hw
      have hP : va_P D vwCl (wX q cI n S P x) H := hP.sub [0, 1, 2, 10, 11, 12, 13, 14, 15, 3, 4, 5, 6, 7, 8, 9] rfl
      have hD : va_D A (wX q cI n S P x) := hD.sub [0, 1, 2, 10, 11, 12, 13, 14, 15, 3, 4, 5, 6, 7, 8, 9] (by decide) rfl
      exact W.iret (v := nI (popn e1)) hx hb hr (fun t9 ht9 hW9 => ⟨⟨nI (popn e1), (wX q cI n S P x), rfl, ⟨by unfold aProp; rw [if_pos h3, ix_nI ha (by omega), ix_nI ht (by omega), if_neg k20_0, if_neg k20_1, if_pos k20_2, he2, ix_nI he1 (by omega)], rfl⟩, by rw [ht9]; exact hP, va_K.moved hW9.alike hK, hD⟩, hS.F ht9⟩) hS.2.2 dDecreePool_proposer_85
    by_cases k20_3 : wt = nI 3
    · refine lv_topi (nm_r (k20_3) ?_)
      refine lv_tableIn (tgt := 86) hx hb dDecreePool_proposer_20 (by decide) (by decide) rfl (by decide) ?_
      refine lv_aload_n hx hb dDecreePool_proposer_86 rfl (lv_at hl 1 rfl) ?_
      refine va_get (D := D) (ci := 0) (v := .ref (q 3)) (C := RDecreePool) (T := TDecreePool) (N := 9) hx hb hts (fun w h => mc (uDecreePool_in w h)) hown hK hP 0 rfl rfl 3 (by decide) (hts _ (mc wd108)) (fun _ h9 => h9) rfl dDecreePool_proposer_87 ?_
      refine lv_iload hx hb dDecreePool_proposer_90 (lv_at hl 0 rfl) ?_
      have hPc := hP.sub (ws' := (wPr q cI n (n * S) (sq S (x.1 1)) (sq S (x.1 2)) (sq S (x.1 3)) (sq S (x.1 4)) (sq S (x.1 5)))) [3, 4, 5, 6, 7, 8] rfl
      have hDc := hD.sub (ws' := (wPr q cI n (n * S) (sq S (x.1 1)) (sq S (x.1 2)) (sq S (x.1 3)) (sq S (x.1 4)) (sq S (x.1 5)))) [3, 4, 5, 6, 7, 8] (by decide) rfl
      refine kx_i (va_runV (As := [.int (nI (a * S + t))]) (rest := []) ⟨hx, hb, hml, hown, hts⟩ ((c_pr_bestBallot l D cI cZ q n (n * S) (sq S (x.1 1)) (sq S (x.1 2)) (sq S (x.1 3)) (sq S (x.1 4)) (sq S (x.1 5)) (a * S + t) (L20 hn5 hS4) (seat_lt ha ht)) H.size) (cwV 1 hts (gV wd350 wd351 wd352 wd3 wd353) rfl rfl rfl (by decide +kernel) ⟨Nat.le_of_ble_eq_true rfl, Nat.le_of_ble_eq_true rfl⟩) ⟨fb_PW, va_recv (q0 := 0) (ci := 2) hK hPc rfl rfl, pre_PW hK hPc hDc hZ⟩ rfl rfl hl.1 rfl (lv_room (Nat.le_of_ble_eq_true rfl)) dDecreePool_proposer_92 ⟨Nat.zero_le _, Nat.zero_le _⟩) hP hD hS hA [3, 4, 5, 6, 7, 8] [0, 1, 2, 9, 10, 11, 12, 13, 14, 15] rfl rfl (by decide) (by decide) (fun r w1 H locs hw hP hD hS => ?_)
      obtain ⟨rfl, rfl⟩ := hw
      have hP : va_P D vwCl (wX q cI n S P x) H := hP.sub [0, 1, 2, 10, 11, 12, 13, 14, 15, 3, 4, 5, 6, 7, 8, 9] rfl
      have hD : va_D A (wX q cI n S P x) := hD.sub [0, 1, 2, 10, 11, 12, 13, 14, 15, 3, 4, 5, 6, 7, 8, 9] (by decide) rfl
      refine lv_topi (nm_r (sq_at ht) ?_)
      exact W.iret (v := x.1 4 a t) hx hb hr (fun t9 ht9 hW9 => ⟨⟨x.1 4 a t, (wX q cI n S P x), rfl, ⟨by unfold aProp; rw [if_pos h3, ix_nI ha (by omega), ix_nI ht (by omega), if_neg k20_0, if_neg k20_1, if_neg k20_2, if_pos k20_3], rfl⟩, by rw [ht9]; exact hP, va_K.moved hW9.alike hK, hD⟩, hS.F ht9⟩) hS.2.2 dDecreePool_proposer_95
    by_cases k20_4 : wt = nI 4
    · refine lv_topi (nm_r (k20_4) ?_)
      refine lv_tableIn (tgt := 96) hx hb dDecreePool_proposer_20 (by decide) (by decide) rfl (by decide) ?_
      refine lv_aload_n hx hb dDecreePool_proposer_96 rfl (lv_at hl 1 rfl) ?_
      refine va_get (D := D) (ci := 0) (v := .ref (q 3)) (C := RDecreePool) (T := TDecreePool) (N := 9) hx hb hts (fun w h => mc (uDecreePool_in w h)) hown hK hP 0 rfl rfl 3 (by decide) (hts _ (mc wd108)) (fun _ h9 => h9) rfl dDecreePool_proposer_97 ?_
      refine lv_iload hx hb dDecreePool_proposer_100 (lv_at hl 0 rfl) ?_
      have hPc := hP.sub (ws' := (wPr q cI n (n * S) (sq S (x.1 1)) (sq S (x.1 2)) (sq S (x.1 3)) (sq S (x.1 4)) (sq S (x.1 5)))) [3, 4, 5, 6, 7, 8] rfl
      have hDc := hD.sub (ws' := (wPr q cI n (n * S) (sq S (x.1 1)) (sq S (x.1 2)) (sq S (x.1 3)) (sq S (x.1 4)) (sq S (x.1 5)))) [3, 4, 5, 6, 7, 8] (by decide) rfl
      refine kx_i (va_runV (As := [.int (nI (a * S + t))]) (rest := []) ⟨hx, hb, hml, hown, hts⟩ ((c_pr_phase l D cI cZ q n (n * S) (sq S (x.1 1)) (sq S (x.1 2)) (sq S (x.1 3)) (sq S (x.1 4)) (sq S (x.1 5)) (a * S + t) (L20 hn5 hS4) (seat_lt ha ht)) H.size) (cwV 1 hts (gV wd345 wd346 wd347 wd3 wd348) rfl rfl rfl (by decide +kernel) ⟨Nat.le_of_ble_eq_true rfl, Nat.le_of_ble_eq_true rfl⟩) ⟨fb_PW, va_recv (q0 := 0) (ci := 2) hK hPc rfl rfl, pre_PW hK hPc hDc hZ⟩ rfl rfl hl.1 rfl (lv_room (Nat.le_of_ble_eq_true rfl)) dDecreePool_proposer_102 ⟨Nat.zero_le _, Nat.zero_le _⟩) hP hD hS hA [3, 4, 5, 6, 7, 8] [0, 1, 2, 9, 10, 11, 12, 13, 14, 15] rfl rfl (by decide) (by decide) (fun r w1 H locs hw hP hD hS => ?_)
      obtain ⟨rfl, rfl⟩ := hw
      have hP : va_P D vwCl (wX q cI n S P x) H := hP.sub [0, 1, 2, 10, 11, 12, 13, 14, 15, 3, 4, 5, 6, 7, 8, 9] rfl
      have hD : va_D A (wX q cI n S P x) := hD.sub [0, 1, 2, 10, 11, 12, 13, 14, 15, 3, 4, 5, 6, 7, 8, 9] (by decide) rfl
      refine lv_topi (nm_r (sq_at ht) ?_)
      refine lv_iconst (v := nI 2) hx hb dDecreePool_proposer_105 (by decide) ?_
      refine lv_icmp_ne (tgt := 121) hx hb dDecreePool_proposer_106 (by decide) (fun c106 => ?_) (fun c106 => ?_)
      · refine lv_iconst (v := nI 0) hx hb dDecreePool_proposer_121 (by decide) ?_
        exact W.iret (v := nI 0) hx hb hr (fun t9 ht9 hW9 => ⟨⟨nI 0, (wX q cI n S P x), rfl, ⟨by unfold aProp; rw [if_pos h3, ix_nI ha (by omega), ix_nI ht (by omega), if_neg k20_0, if_neg k20_1, if_neg k20_2, if_neg k20_3, if_pos k20_4, if_neg c106], rfl⟩, by rw [ht9]; exact hP, va_K.moved hW9.alike hK, hD⟩, hS.F ht9⟩) hS.2.2 dDecreePool_proposer_122
      · refine lv_aload_n hx hb dDecreePool_proposer_109 rfl (lv_at hl 1 rfl) ?_
        refine va_get (D := D) (ci := 0) (v := .ref (q 3)) (C := RDecreePool) (T := TDecreePool) (N := 9) hx hb hts (fun w h => mc (uDecreePool_in w h)) hown hK hP 0 rfl rfl 3 (by decide) (hts _ (mc wd108)) (fun _ h9 => h9) rfl dDecreePool_proposer_110 ?_
        refine lv_iload hx hb dDecreePool_proposer_113 (lv_at hl 0 rfl) ?_
        have hPc := hP.sub (ws' := (wPr q cI n (n * S) (sq S (x.1 1)) (sq S (x.1 2)) (sq S (x.1 3)) (sq S (x.1 4)) (sq S (x.1 5)))) [3, 4, 5, 6, 7, 8] rfl
        have hDc := hD.sub (ws' := (wPr q cI n (n * S) (sq S (x.1 1)) (sq S (x.1 2)) (sq S (x.1 3)) (sq S (x.1 4)) (sq S (x.1 5)))) [3, 4, 5, 6, 7, 8] (by decide) rfl
        refine kx_i (va_runV (As := [.int (nI (a * S + t))]) (rest := []) ⟨hx, hb, hml, hown, hts⟩ ((c_pr_value l D cI cZ q n (n * S) (sq S (x.1 1)) (sq S (x.1 2)) (sq S (x.1 3)) (sq S (x.1 4)) (sq S (x.1 5)) (a * S + t) (L20 hn5 hS4) (seat_lt ha ht)) H.size) (cwV 1 hts (gV wd252 wd253 wd254 wd3 wd255) rfl rfl rfl (by decide +kernel) ⟨Nat.le_of_ble_eq_true rfl, Nat.le_of_ble_eq_true rfl⟩) ⟨fb_PW, va_recv (q0 := 0) (ci := 2) hK hPc rfl rfl, pre_PW hK hPc hDc hZ⟩ rfl rfl hl.1 rfl (lv_room (Nat.le_of_ble_eq_true rfl)) dDecreePool_proposer_115 ⟨Nat.zero_le _, Nat.zero_le _⟩) hP hD hS hA [3, 4, 5, 6, 7, 8] [0, 1, 2, 9, 10, 11, 12, 13, 14, 15] rfl rfl (by decide) (by decide) (fun r w1 H locs hw hP hD hS => ?_)
        obtain ⟨rfl, rfl⟩ := hw
        have hP : va_P D vwCl (wX q cI n S P x) H := hP.sub [0, 1, 2, 10, 11, 12, 13, 14, 15, 3, 4, 5, 6, 7, 8, 9] rfl
        have hD : va_D A (wX q cI n S P x) := hD.sub [0, 1, 2, 10, 11, 12, 13, 14, 15, 3, 4, 5, 6, 7, 8, 9] (by decide) rfl
        refine lv_topi (nm_r (sq_at ht) ?_)
        refine lv_goto (tgt := 122) hx hb dDecreePool_proposer_118 (by decide) ?_
        exact W.iret (v := x.1 5 a t) hx hb hr (fun t9 ht9 hW9 => ⟨⟨x.1 5 a t, (wX q cI n S P x), rfl, ⟨by unfold aProp; rw [if_pos h3, ix_nI ha (by omega), ix_nI ht (by omega), if_neg k20_0, if_neg k20_1, if_neg k20_2, if_neg k20_3, if_pos k20_4, if_pos c106], rfl⟩, by rw [ht9]; exact hP, va_K.moved hW9.alike hK, hD⟩, hS.F ht9⟩) hS.2.2 dDecreePool_proposer_122
    refine lv_tableOut (tgt := 123) hx hb dDecreePool_proposer_20 (tb_out 0 4 (by intro j h1 h2; rcases (show j = 0 ∨ j = 1 ∨ j = 2 ∨ j = 3 ∨ j = 4 by omega) with rfl | rfl | rfl | rfl | rfl <;> assumption)) (by decide) ?_
    refine lv_iconst (v := (-1)) hx hb dDecreePool_proposer_123 (by decide) ?_
    exact W.iret (v := (-1)) hx hb hr (fun t9 ht9 hW9 => ⟨⟨(-1), (wX q cI n S P x), rfl, ⟨by unfold aProp; rw [if_pos h3, ix_nI ha (by omega), ix_nI ht (by omega), if_neg k20_0, if_neg k20_1, if_neg k20_2, if_neg k20_3, if_neg k20_4], rfl⟩, by rw [ht9]; exact hP, va_K.moved hW9.alike hK, hD⟩, hS.F ht9⟩) hS.2.2 dDecreePool_proposer_124
  · have hP : va_P D vwCl (wX q cI n S P x) H := hP
    have hD : va_D A (wX q cI n S P x) := hD
    refine lv_if_ne (tgt := 11) hx hb dDecreePool_proposer_6 (by decide) (fun h9 => absurd (by decide) h9) (fun _ => ?_)
    refine lv_iconst (v := (-1)) hx hb dDecreePool_proposer_9 (by decide) ?_
    exact W.iret (v := (-1)) hx hb hr (fun t9 ht9 hW9 => ⟨⟨(-1), (wX q cI n S P x), rfl, ⟨by unfold aProp; rw [if_neg h3], rfl⟩, by rw [ht9]; exact hP, va_K.moved hW9.alike hK, hD⟩, hS.F ht9⟩) hS.2.2 dDecreePool_proposer_10
theorem dDecreePool_heard_0 : decode cDecreePool_heard 0 = .ok (.aload_n 0, 1) := by decide +kernel
theorem dDecreePool_heard_1 : decode cDecreePool_heard 1 = .ok (.iload_n 1, 1) := by decide +kernel
theorem dDecreePool_heard_2 : decode cDecreePool_heard 2 = .ok (.iload_n 2, 1) := by decide +kernel
theorem dDecreePool_heard_3 : decode cDecreePool_heard 3 = .ok (.invokevirtual 61, 3) := by decide +kernel
theorem dDecreePool_heard_6 : decode cDecreePool_heard 6 = .ok (.ifCond .eq 11, 3) := by decide +kernel
theorem dDecreePool_heard_9 : decode cDecreePool_heard 9 = .ok (.aload_n 0, 1) := by decide +kernel
theorem dDecreePool_heard_10 : decode cDecreePool_heard 10 = .ok (.iload_n 3, 1) := by decide +kernel
theorem dDecreePool_heard_11 : decode cDecreePool_heard 11 = .ok (.invokevirtual 110, 3) := by decide +kernel
theorem dDecreePool_heard_14 : decode cDecreePool_heard 14 = .ok (.ifCond .ne 5, 3) := by decide +kernel
theorem dDecreePool_heard_17 : decode cDecreePool_heard 17 = .ok (.iconst (-1), 1) := by decide +kernel
theorem dDecreePool_heard_18 : decode cDecreePool_heard 18 = .ok (.ireturn, 1) := by decide +kernel
theorem dDecreePool_heard_19 : decode cDecreePool_heard 19 = .ok (.aload_n 0, 1) := by decide +kernel
theorem dDecreePool_heard_20 : decode cDecreePool_heard 20 = .ok (.getfield 48, 3) := by decide +kernel
theorem dDecreePool_heard_23 : decode cDecreePool_heard 23 = .ok (.aload_n 0, 1) := by decide +kernel
theorem dDecreePool_heard_24 : decode cDecreePool_heard 24 = .ok (.iload_n 1, 1) := by decide +kernel
theorem dDecreePool_heard_25 : decode cDecreePool_heard 25 = .ok (.iload_n 2, 1) := by decide +kernel
theorem dDecreePool_heard_26 : decode cDecreePool_heard 26 = .ok (.invokevirtual 69, 3) := by decide +kernel
theorem dDecreePool_heard_29 : decode cDecreePool_heard 29 = .ok (.iload_n 3, 1) := by decide +kernel
theorem dDecreePool_heard_30 : decode cDecreePool_heard 30 = .ok (.invokevirtual 146, 3) := by decide +kernel
theorem dDecreePool_heard_33 : decode cDecreePool_heard 33 = .ok (.ireturn, 1) := by decide +kernel
set_option maxRecDepth 100000 in
set_option maxHeartbeats 4000000 in
theorem c_heard (l : Launch) (D : va_G) (cI cZ : ClassId) (q : Nat → Nat) (n : Nat) (S : Nat) (P : Nat) (x : St) (nd : Int32) (sl : Int32) (wt : Int32) (hn1 : 1 ≤ n) (hn5 : n ≤ 5) (hS1 : 1 ≤ S) (hS4 : S ≤ 4) (hP5 : 5 ≤ P) (hP64 : P ≤ 64) : MI l D [(cI, .int), (cZ, .boolean)] yDecreePool_heard wsDecreePool_heard ({ frames := 3, cells := 0, slots := 0, locals := 65 }) [.ref (q 0), .int nd, .int sl, .int wt] (wX q cI n S P x) (fun r w => r = aHeard n S x nd sl wt ∧ w = (wX q cI n S P x)) := by
  intro sz
  refine Met.ofW (cc := cDecreePool_heard) (maxL := 4) (ret := (Option.some .int)) (by decide) rfl ?_
  intro p e s m args below meth c s₁ B hml hv
  obtain ⟨rfl, hsz, hP, hK, hD0, hZ⟩ := hv
  have hx := B.exec
  have hb := B.bytes
  have hr := B.returns
  have hts := atoms_spec (ws := wsDecreePool_heard) B.pre
  have hown : s.vm.findClass RDecreePool = some m.cls := findClass_of_methodNamed B.named
  have hlocks := B.notSynchronized
  subst hsz
  have hD := hD0.self (sz := s.heap.size)
  generalize hAe : va_A (wX q cI n S P x) s.heap.size = A at hD ⊢
  have hA : ∀ q : Nat, s.heap.size ≤ q → A q := fun q h => by rw [← hAe]; exact Or.inr h
  have hS : va_S A s.heap s.heap [] := va_S.rf
  have hP : va_P D vwCl (wX q cI n S P x) s.heap := hP
  have hl := lv_entry ([.ref (q 0), .int nd, .int sl, .int wt]) (n := 4) (Nat.le_of_ble_eq_true rfl)
  rw [lg_entry_eq]
  generalize (lg_sl ([.ref (q 0), .int nd, .int sl, .int wt]) ++ List.replicate (4 - (lg_sl ([.ref (q 0), .int nd, .int sl, .int wt])).length) Slot.unset).toArray = ls at hl ⊢
  have hl : lv_has ls 4 [(0, .ref (q 0)), (1, .int nd), (2, .int sl), (3, .int wt)] := hl
  refine lv_aload_n hx hb dDecreePool_heard_0 rfl (lv_at hl 0 rfl) ?_
  refine lv_iload_n hx hb dDecreePool_heard_1 rfl (lv_at hl 1 rfl) ?_
  refine lv_iload_n hx hb dDecreePool_heard_2 rfl (lv_at hl 2 rfl) ?_
  have hPc := hP.sub (ws' := (wX q cI n S P x)) [0, 1, 2, 3, 4, 5, 6, 7, 8, 9, 10, 11, 12, 13, 14, 15] rfl
  have hDc := hD.sub (ws' := (wX q cI n S P x)) [0, 1, 2, 3, 4, 5, 6, 7, 8, 9, 10, 11, 12, 13, 14, 15] (by decide) rfl
  refine kx_i (va_runV (As := [.int nd, .int sl]) (rest := []) ⟨hx, hb, hml, hown, hts⟩ ((c_hasSeat l D cI cZ q n S P x nd sl (hn1) (hn5) (hS1) (hS4) (hP5) (hP64)) s.heap.size) (cwV 2 hts (gV wd137 wd139 sl_DecreePool_hasSeat wd1 wd140) rfl rfl rfl (by decide +kernel) ⟨Nat.le_of_ble_eq_true rfl, Nat.le_of_ble_eq_true rfl⟩) ⟨fb_PW, va_recv (q0 := 0) (ci := 0) hK hPc rfl rfl, pre_PW hK hPc hDc hZ⟩ rfl rfl hl.1 rfl (lv_room (Nat.le_of_ble_eq_true rfl)) dDecreePool_heard_3 ⟨Nat.zero_le _, Nat.zero_le _⟩) hP hD hS hA [0, 1, 2, 3, 4, 5, 6, 7, 8, 9, 10, 11, 12, 13, 14, 15] [] rfl rfl (by decide) (by decide) (fun r w1 H locs hw hP hD hS => ?_)
  rcases hw with ⟨rfl, h3, rfl⟩ | ⟨rfl, h3, rfl⟩
  · have hP : va_P D vwCl (wX q cI n S P x) H := hP
    have hD : va_D A (wX q cI n S P x) := hD
    obtain ⟨a, ha, rfl⟩ := okN_of (show n < 2 ^ 31 by omega) h3.1
    obtain ⟨t, ht, rfl⟩ := okN_of (show S < 2 ^ 31 by omega) h3.2
    refine lv_if_eq (tgt := 17) hx hb dDecreePool_heard_6 (by decide) (fun h9 => absurd h9 (by decide)) (fun _ => ?_)
    refine lv_aload_n hx hb dDecreePool_heard_9 rfl (lv_at hl 0 rfl) ?_
    refine lv_iload_n hx hb dDecreePool_heard_10 rfl (lv_at hl 3 rfl) ?_
    have hPc := hP.sub (ws' := (wX q cI n S P x)) [0, 1, 2, 3, 4, 5, 6, 7, 8, 9, 10, 11, 12, 13, 14, 15] rfl
    have hDc := hD.sub (ws' := (wX q cI n S P x)) [0, 1, 2, 3, 4, 5, 6, 7, 8, 9, 10, 11, 12, 13, 14, 15] (by decide) rfl
    refine kx_i (va_runV (As := [.int wt]) (rest := []) ⟨hx, hb, hml, hown, hts⟩ ((c_hasNode l D cI cZ q n S P x wt (hn1) (hn5) (hS1) (hS4) (hP5) (hP64)) H.size) (cwV 1 hts (gV wd141 wd143 sl_DecreePool_hasNode wd1 wd144) rfl rfl rfl (by decide +kernel) ⟨Nat.le_of_ble_eq_true rfl, Nat.le_of_ble_eq_true rfl⟩) ⟨fb_PW, va_recv (q0 := 0) (ci := 0) hK hPc rfl rfl, pre_PW hK hPc hDc hZ⟩ rfl rfl hl.1 rfl (lv_room (Nat.le_of_ble_eq_true rfl)) dDecreePool_heard_11 ⟨Nat.zero_le _, Nat.zero_le _⟩) hP hD hS hA [0, 1, 2, 3, 4, 5, 6, 7, 8, 9, 10, 11, 12, 13, 14, 15] [] rfl rfl (by decide) (by decide) (fun r w1 H locs hw hP hD hS => ?_)
    rcases hw with ⟨rfl, h11, rfl⟩ | ⟨rfl, h11, rfl⟩
    · have hP : va_P D vwCl (wX q cI n S P x) H := hP
      have hD : va_D A (wX q cI n S P x) := hD
      obtain ⟨c9, hc9, rfl⟩ := okN_of (show n < 2 ^ 31 by omega) h11
      refine lv_if_ne (tgt := 19) hx hb dDecreePool_heard_14 (by decide) (fun _ => ?_) (fun h9 => absurd h9 (by decide))
      refine lv_aload_n hx hb dDecreePool_heard_19 rfl (lv_at hl 0 rfl) ?_
      refine va_get (D := D) (ci := 0) (v := .ref (q 13)) (C := RDecreePool) (T := TDecreePool) (N := 9) hx hb hts (fun w h => mc (uDecreePool_in w h)) hown hK hP 0 rfl rfl 5 (by decide) (hts _ (mc wd110)) (fun _ h9 => h9) rfl dDecreePool_heard_20 ?_
      refine lv_aload_n hx hb dDecreePool_heard_23 rfl (lv_at hl 0 rfl) ?_
      refine lv_iload_n hx hb dDecreePool_heard_24 rfl (lv_at hl 1 rfl) ?_
      refine lv_iload_n hx hb dDecreePool_heard_25 rfl (lv_at hl 2 rfl) ?_
      have hPc := hP.sub (ws' := (wX q cI n S P x)) [0, 1, 2, 3, 4, 5, 6, 7, 8, 9, 10, 11, 12, 13, 14, 15] rfl
      have hDc := hD.sub (ws' := (wX q cI n S P x)) [0, 1, 2, 3, 4, 5, 6, 7, 8, 9, 10, 11, 12, 13, 14, 15] (by decide) rfl
      refine kx_i (va_runV (As := [.int (nI a), .int (nI t)]) (rest := [.ref (q 13)]) ⟨hx, hb, hml, hown, hts⟩ ((c_seatOf l D cI cZ q n S P x a t (hn1) (hn5) (hS1) (hS4) (hP5) (hP64)) H.size) (cwV 2 hts (gV wd153 wd155 sl_DecreePool_seatOf wd1 wd156) rfl rfl rfl (by decide +kernel) ⟨Nat.le_of_ble_eq_true rfl, Nat.le_of_ble_eq_true rfl⟩) ⟨fb_PW, va_recv (q0 := 0) (ci := 0) hK hPc rfl rfl, pre_PW hK hPc hDc hZ⟩ rfl rfl hl.1 rfl (lv_room (Nat.le_of_ble_eq_true rfl)) dDecreePool_heard_26 ⟨Nat.zero_le _, Nat.zero_le _⟩) hP hD hS hA [0, 1, 2, 3, 4, 5, 6, 7, 8, 9, 10, 11, 12, 13, 14, 15] [] rfl rfl (by decide) (by decide) (fun r w1 H locs hw hP hD hS => ?_)
      obtain ⟨rfl, rfl⟩ := hw
      have hP : va_P D vwCl (wX q cI n S P x) H := hP
      have hD : va_D A (wX q cI n S P x) := hD
      refine lv_iload_n hx hb dDecreePool_heard_29 rfl (lv_at hl 3 rfl) ?_
      have hPc := hP.sub (ws' := (wLe q cI n (n * S) (hq n S (x.2 0)) (sq S (x.1 11)))) [13, 14, 15] rfl
      have hDc := hD.sub (ws' := (wLe q cI n (n * S) (hq n S (x.2 0)) (sq S (x.1 11)))) [13, 14, 15] (by decide) rfl
      refine kx_i (va_runV (As := [.int (nI (a * S + t)), .int (nI c9)]) (rest := []) ⟨hx, hb, hml, hown, hts⟩ ((c_ballotOf l D cI cZ q n (n * S) (hq n S (x.2 0)) (sq S (x.1 11)) (a * S + t) c9 (L20 hn5 hS4) (hn5) (seat_lt ha ht) (hc9)) H.size) (cwV 2 hts (gV wd358 wd266 wd267 wd6 wd268) rfl rfl rfl (by decide +kernel) ⟨Nat.le_of_ble_eq_true rfl, Nat.le_of_ble_eq_true rfl⟩) ⟨fb_PW, va_recv (q0 := 0) (ci := 4) hK hPc rfl rfl, pre_PW hK hPc hDc hZ⟩ rfl rfl hl.1 rfl (lv_room (Nat.le_of_ble_eq_true rfl)) dDecreePool_heard_30 ⟨Nat.zero_le _, Nat.zero_le _⟩) hP hD hS hA [13, 14, 15] [0, 1, 2, 3, 4, 5, 6, 7, 8, 9, 10, 11, 12] rfl rfl (by decide) (by decide) (fun r w1 H locs hw hP hD hS => ?_)
      obtain ⟨rfl, rfl⟩ := hw
      have hP : va_P D vwCl (wX q cI n S P x) H := hP
      have hD : va_D A (wX q cI n S P x) := hD
      refine lv_topi (nm_r (hq_at hc9 ht) ?_)
      exact W.iret (v := x.2 0 a t c9) hx hb hr (fun t9 ht9 hW9 => ⟨⟨x.2 0 a t c9, (wX q cI n S P x), rfl, ⟨by unfold aHeard; rw [if_pos ⟨h3.1, h3.2, h11⟩, ix_nI ha (by omega), ix_nI ht (by omega), ix_nI hc9 (by omega)], rfl⟩, by rw [ht9]; exact hP, va_K.moved hW9.alike hK, hD⟩, hS.F ht9⟩) hS.2.2 dDecreePool_heard_33
    · have hP : va_P D vwCl (wX q cI n S P x) H := hP
      have hD : va_D A (wX q cI n S P x) := hD
      refine lv_if_ne (tgt := 19) hx hb dDecreePool_heard_14 (by decide) (fun h9 => absurd (by decide) h9) (fun _ => ?_)
      refine lv_iconst (v := (-1)) hx hb dDecreePool_heard_17 (by decide) ?_
      exact W.iret (v := (-1)) hx hb hr (fun t9 ht9 hW9 => ⟨⟨(-1), (wX q cI n S P x), rfl, ⟨by unfold aHeard; rw [if_neg (fun h => h11 h.2.2)], rfl⟩, by rw [ht9]; exact hP, va_K.moved hW9.alike hK, hD⟩, hS.F ht9⟩) hS.2.2 dDecreePool_heard_18
  · have hP : va_P D vwCl (wX q cI n S P x) H := hP
    have hD : va_D A (wX q cI n S P x) := hD
    refine lv_if_eq (tgt := 17) hx hb dDecreePool_heard_6 (by decide) (fun _ => ?_) (fun h9 => absurd (by decide) h9)
    refine lv_iconst (v := (-1)) hx hb dDecreePool_heard_17 (by decide) ?_
    exact W.iret (v := (-1)) hx hb hr (fun t9 ht9 hW9 => ⟨⟨(-1), (wX q cI n S P x), rfl, ⟨by unfold aHeard; rw [if_neg (fun h => h3 ⟨h.1, h.2.1⟩)], rfl⟩, by rw [ht9]; exact hP, va_K.moved hW9.alike hK, hD⟩, hS.F ht9⟩) hS.2.2 dDecreePool_heard_18
theorem dDecreePool_message_0 : decode cDecreePool_message 0 = .ok (.aload_n 0, 1) := by decide +kernel
theorem dDecreePool_message_1 : decode cDecreePool_message 1 = .ok (.getfield 25, 3) := by decide +kernel
theorem dDecreePool_message_4 : decode cDecreePool_message 4 = .ok (.iload_n 1, 1) := by decide +kernel
theorem dDecreePool_message_5 : decode cDecreePool_message 5 = .ok (.invokevirtual 89, 3) := by decide +kernel
theorem dDecreePool_message_8 : decode cDecreePool_message 8 = .ok (.ifCond .eq 25, 3) := by decide +kernel
theorem dDecreePool_message_11 : decode cDecreePool_message 11 = .ok (.iload_n 2, 1) := by decide +kernel
theorem dDecreePool_message_12 : decode cDecreePool_message 12 = .ok (.iconst 0, 1) := by decide +kernel
theorem dDecreePool_message_13 : decode cDecreePool_message 13 = .ok (.bipush 6, 2) := by decide +kernel
theorem dDecreePool_message_15 : decode cDecreePool_message 15 = .ok (.invokestatic 7, 3) := by decide +kernel
theorem dDecreePool_message_18 : decode cDecreePool_message 18 = .ok (.ifCond .eq 15, 3) := by decide +kernel
theorem dDecreePool_message_21 : decode cDecreePool_message 21 = .ok (.aload_n 0, 1) := by decide +kernel
theorem dDecreePool_message_22 : decode cDecreePool_message 22 = .ok (.getfield 25, 3) := by decide +kernel
theorem dDecreePool_message_25 : decode cDecreePool_message 25 = .ok (.iload_n 1, 1) := by decide +kernel
theorem dDecreePool_message_26 : decode cDecreePool_message 26 = .ok (.iload_n 2, 1) := by decide +kernel
theorem dDecreePool_message_27 : decode cDecreePool_message 27 = .ok (.invokevirtual 101, 3) := by decide +kernel
theorem dDecreePool_message_30 : decode cDecreePool_message 30 = .ok (.goto 4, 3) := by decide +kernel
theorem dDecreePool_message_33 : decode cDecreePool_message 33 = .ok (.iconst (-1), 1) := by decide +kernel
theorem dDecreePool_message_34 : decode cDecreePool_message 34 = .ok (.ireturn, 1) := by decide +kernel
set_option maxRecDepth 100000 in
set_option maxHeartbeats 4000000 in
theorem c_message (l : Launch) (D : va_G) (cI cZ : ClassId) (q : Nat → Nat) (n : Nat) (S : Nat) (P : Nat) (x : St) (v : Int32) (wt : Int32) (hn1 : 1 ≤ n) (hn5 : n ≤ 5) (hS1 : 1 ≤ S) (hS4 : S ≤ 4) (hP5 : 5 ≤ P) (hP64 : P ≤ 64) : MI l D [(cI, .int), (cZ, .boolean)] yDecreePool_message wsDecreePool_message ({ frames := 2, cells := 0, slots := 0, locals := 43 }) [.ref (q 0), .int v, .int wt] (wX q cI n S P x) (fun r w => r = aMsg P x v wt ∧ w = (wX q cI n S P x)) := by
  intro sz
  refine Met.ofW (cc := cDecreePool_message) (maxL := 3) (ret := (Option.some .int)) (by decide) rfl ?_
  intro p e s m args below meth c s₁ B hml hv
  obtain ⟨rfl, hsz, hP, hK, hD0, hZ⟩ := hv
  have hx := B.exec
  have hb := B.bytes
  have hr := B.returns
  have hts := atoms_spec (ws := wsDecreePool_message) B.pre
  have hown : s.vm.findClass RDecreePool = some m.cls := findClass_of_methodNamed B.named
  have hlocks := B.notSynchronized
  subst hsz
  have hD := hD0.self (sz := s.heap.size)
  generalize hAe : va_A (wX q cI n S P x) s.heap.size = A at hD ⊢
  have hA : ∀ q : Nat, s.heap.size ≤ q → A q := fun q h => by rw [← hAe]; exact Or.inr h
  have hS : va_S A s.heap s.heap [] := va_S.rf
  have hP : va_P D vwCl (wX q cI n S P x) s.heap := hP
  have hl := lv_entry ([.ref (q 0), .int v, .int wt]) (n := 3) (Nat.le_of_ble_eq_true rfl)
  rw [lg_entry_eq]
  generalize (lg_sl ([.ref (q 0), .int v, .int wt]) ++ List.replicate (3 - (lg_sl ([.ref (q 0), .int v, .int wt])).length) Slot.unset).toArray = ls at hl ⊢
  have hl : lv_has ls 3 [(0, .ref (q 0)), (1, .int v), (2, .int wt)] := hl
  refine lv_aload_n hx hb dDecreePool_message_0 rfl (lv_at hl 0 rfl) ?_
  refine va_get (D := D) (ci := 0) (v := .ref (q 1)) (C := RDecreePool) (T := TDecreePool) (N := 9) hx hb hts (fun w h => mc (uDecreePool_in w h)) hown hK hP 0 rfl rfl 2 (by decide) (hts _ (mc wd107)) (fun _ h9 => h9) rfl dDecreePool_message_1 ?_
  refine lv_iload_n hx hb dDecreePool_message_4 rfl (lv_at hl 1 rfl) ?_
  have hPc := hP.sub (ws' := (wPo q cI P (x.1 0) (cntx P x))) [1, 2] rfl
  have hDc := hD.sub (ws' := (wPo q cI P (x.1 0) (cntx P x))) [1, 2] (by decide) rfl
  refine kx_i (va_runV (As := [.int v]) (rest := []) ⟨hx, hb, hml, hown, hts⟩ ((c_holds l D cI cZ q P (x.1 0) (cntx P x) v (hP64) (by omega)) s.heap.size) (cwV 1 hts (gV wd189 wd190 wd191 wd2 wd192) rfl rfl rfl (by decide +kernel) ⟨Nat.le_of_ble_eq_true rfl, Nat.le_of_ble_eq_true rfl⟩) ⟨fb_PW, va_recv (q0 := 0) (ci := 1) hK hPc rfl rfl, pre_PW hK hPc hDc hZ⟩ rfl rfl hl.1 rfl (lv_room (Nat.le_of_ble_eq_true rfl)) dDecreePool_message_5 ⟨Nat.zero_le _, Nat.zero_le _⟩) hP hD hS hA [1, 2] [0, 3, 4, 5, 6, 7, 8, 9, 10, 11, 12, 13, 14, 15] rfl rfl (by decide) (by decide) (fun r w1 H locs hw hP hD hS => ?_)
  rcases hw with ⟨rfl, h5, rfl⟩ | ⟨rfl, h5, rfl⟩
  · have hP : va_P D vwCl (wX q cI n S P x) H := hP.sub [0, 14, 15, 1, 2, 3, 4, 5, 6, 7, 8, 9, 10, 11, 12, 13] rfl
    have hD : va_D A (wX q cI n S P x) := hD.sub [0, 14, 15, 1, 2, 3, 4, 5, 6, 7, 8, 9, 10, 11, 12, 13] (by decide) rfl
    obtain ⟨j, hj, rfl⟩ := okN_of (show P < 2 ^ 31 by omega) h5.1
    have hk0 : x.1 0 j 0 ≠ 0 := by have h6 := h5.2; rw [ix_nI hj (by omega)] at h6; exact h6
    have hisM : isM P x (nI j) := h5
    refine lv_if_eq (tgt := 33) hx hb dDecreePool_message_8 (by decide) (fun h9 => absurd h9 (by decide)) (fun _ => ?_)
    refine lv_iload_n hx hb dDecreePool_message_11 rfl (lv_at hl 2 rfl) ?_
    refine lv_iconst (v := nI 0) hx hb dDecreePool_message_12 (by decide) ?_
    refine lv_bipush (v := nI 6) hx hb dDecreePool_message_13 (by decide) ?_
    have hPc := hP.sub (ws' := ([] : va_W)) [] rfl
    have hDc := hD.sub (ws' := ([] : va_W)) [] (by decide) rfl
    refine kx_i (va_runS (As := [.int wt, .int (nI 0), .int (nI 6)]) (rest := []) ⟨hx, hb, hml, hown, hts⟩ ((c_isWithin l D cI cZ wt (nI 0) (nI 6)) H.size) (va_cwS 3 hts (gS wd17 wd18 wd1 wd19) rfl rfl rfl (by decide +kernel) ⟨Nat.le_of_ble_eq_true rfl, Nat.le_of_ble_eq_true rfl⟩) ⟨fb_PW, pre_PW hK hPc hDc hZ⟩ rfl rfl hl.1 rfl (lv_room (Nat.le_of_ble_eq_true rfl)) dDecreePool_message_15 ⟨Nat.zero_le _, Nat.zero_le _⟩) hP hD hS hA [] [0, 1, 2, 3, 4, 5, 6, 7, 8, 9, 10, 11, 12, 13, 14, 15] rfl rfl (by decide) (by decide) (fun r w1 H locs hw hP hD hS => ?_)
    rcases hw with ⟨rfl, h15, rfl⟩ | ⟨rfl, h15, rfl⟩
    · have hP : va_P D vwCl (wX q cI n S P x) H := hP
      have hD : va_D A (wX q cI n S P x) := hD
      obtain ⟨k9, hk9, rfl⟩ := wi_of (P := 7) (by decide) (by decide) h15
      refine lv_if_eq (tgt := 33) hx hb dDecreePool_message_18 (by decide) (fun h9 => absurd h9 (by decide)) (fun _ => ?_)
      refine lv_aload_n hx hb dDecreePool_message_21 rfl (lv_at hl 0 rfl) ?_
      refine va_get (D := D) (ci := 0) (v := .ref (q 1)) (C := RDecreePool) (T := TDecreePool) (N := 9) hx hb hts (fun w h => mc (uDecreePool_in w h)) hown hK hP 0 rfl rfl 2 (by decide) (hts _ (mc wd107)) (fun _ h9 => h9) rfl dDecreePool_message_22 ?_
      refine lv_iload_n hx hb dDecreePool_message_25 rfl (lv_at hl 1 rfl) ?_
      refine lv_iload_n hx hb dDecreePool_message_26 rfl (lv_at hl 2 rfl) ?_
      have hPc := hP.sub (ws' := (wPo q cI P (x.1 0) (cntx P x))) [1, 2] rfl
      have hDc := hD.sub (ws' := (wPo q cI P (x.1 0) (cntx P x))) [1, 2] (by decide) rfl
      refine kx_i (va_runV (As := [.int (nI j), .int (nI k9)]) (rest := []) ⟨hx, hb, hml, hown, hts⟩ ((c_field l D cI cZ q P (x.1 0) (cntx P x) j k9 (hP64) (hj) (hk9)) H.size) (cwV 2 hts (gV wd202 wd182 wd183 wd2 wd184) rfl rfl rfl (by decide +kernel) ⟨Nat.le_of_ble_eq_true rfl, Nat.le_of_ble_eq_true rfl⟩) ⟨fb_PW, va_recv (q0 := 0) (ci := 1) hK hPc rfl rfl, pre_PW hK hPc hDc hZ⟩ rfl rfl hl.1 rfl (lv_room (Nat.le_of_ble_eq_true rfl)) dDecreePool_message_27 ⟨Nat.zero_le _, Nat.zero_le _⟩) hP hD hS hA [1, 2] [0, 3, 4, 5, 6, 7, 8, 9, 10, 11, 12, 13, 14, 15] rfl rfl (by decide) (by decide) (fun r w1 H locs hw hP hD hS => ?_)
      obtain ⟨rfl, rfl⟩ := hw
      have hP : va_P D vwCl (wX q cI n S P x) H := hP.sub [0, 14, 15, 1, 2, 3, 4, 5, 6, 7, 8, 9, 10, 11, 12, 13] rfl
      have hD : va_D A (wX q cI n S P x) := hD.sub [0, 14, 15, 1, 2, 3, 4, 5, 6, 7, 8, 9, 10, 11, 12, 13] (by decide) rfl
      refine lv_goto (tgt := 34) hx hb dDecreePool_message_30 (by decide) ?_
      exact W.iret (v := x.1 0 j k9) hx hb hr (fun t9 ht9 hW9 => ⟨⟨x.1 0 j k9, (wX q cI n S P x), rfl, ⟨by unfold aMsg; rw [if_pos ⟨hisM, okN_nI hk9 (by decide)⟩, ix_nI hj (by omega), ix_nI hk9 (by decide)], rfl⟩, by rw [ht9]; exact hP, va_K.moved hW9.alike hK, hD⟩, hS.F ht9⟩) hS.2.2 dDecreePool_message_34
    · have hP : va_P D vwCl (wX q cI n S P x) H := hP
      have hD : va_D A (wX q cI n S P x) := hD
      refine lv_if_eq (tgt := 33) hx hb dDecreePool_message_18 (by decide) (fun _ => ?_) (fun h9 => absurd (by decide) h9)
      refine lv_iconst (v := (-1)) hx hb dDecreePool_message_33 (by decide) ?_
      exact W.iret (v := (-1)) hx hb hr (fun t9 ht9 hW9 => ⟨⟨(-1), (wX q cI n S P x), rfl, ⟨by unfold aMsg; rw [if_neg (fun h => wi_no (P := 7) (by decide) h15 h.2)], rfl⟩, by rw [ht9]; exact hP, va_K.moved hW9.alike hK, hD⟩, hS.F ht9⟩) hS.2.2 dDecreePool_message_34
  · have hP : va_P D vwCl (wX q cI n S P x) H := hP.sub [0, 14, 15, 1, 2, 3, 4, 5, 6, 7, 8, 9, 10, 11, 12, 13] rfl
    have hD : va_D A (wX q cI n S P x) := hD.sub [0, 14, 15, 1, 2, 3, 4, 5, 6, 7, 8, 9, 10, 11, 12, 13] (by decide) rfl
    refine lv_if_eq (tgt := 33) hx hb dDecreePool_message_8 (by decide) (fun _ => ?_) (fun h9 => absurd (by decide) h9)
    refine lv_iconst (v := (-1)) hx hb dDecreePool_message_33 (by decide) ?_
    exact W.iret (v := (-1)) hx hb hr (fun t9 ht9 hW9 => ⟨⟨(-1), (wX q cI n S P x), rfl, ⟨by unfold aMsg; rw [if_neg (fun h => h5 h.1)], rfl⟩, by rw [ht9]; exact hP, va_K.moved hW9.alike hK, hD⟩, hS.F ht9⟩) hS.2.2 dDecreePool_message_34
theorem dDecreePool_chosen_0 : decode cDecreePool_chosen 0 = .ok (.aload_n 0, 1) := by decide +kernel
theorem dDecreePool_chosen_1 : decode cDecreePool_chosen 1 = .ok (.iload_n 1, 1) := by decide +kernel
theorem dDecreePool_chosen_2 : decode cDecreePool_chosen 2 = .ok (.invokevirtual 149, 3) := by decide +kernel
theorem dDecreePool_chosen_5 : decode cDecreePool_chosen 5 = .ok (.ifCond .eq 14, 3) := by decide +kernel
theorem dDecreePool_chosen_8 : decode cDecreePool_chosen 8 = .ok (.aload_n 0, 1) := by decide +kernel
theorem dDecreePool_chosen_9 : decode cDecreePool_chosen 9 = .ok (.getfield 41, 3) := by decide +kernel
theorem dDecreePool_chosen_12 : decode cDecreePool_chosen 12 = .ok (.iload_n 1, 1) := by decide +kernel
theorem dDecreePool_chosen_13 : decode cDecreePool_chosen 13 = .ok (.invokevirtual 152, 3) := by decide +kernel
theorem dDecreePool_chosen_16 : decode cDecreePool_chosen 16 = .ok (.goto 4, 3) := by decide +kernel
theorem dDecreePool_chosen_19 : decode cDecreePool_chosen 19 = .ok (.iconst (-1), 1) := by decide +kernel
theorem dDecreePool_chosen_20 : decode cDecreePool_chosen 20 = .ok (.ireturn, 1) := by decide +kernel
set_option maxRecDepth 100000 in
set_option maxHeartbeats 4000000 in
theorem c_chosen (l : Launch) (D : va_G) (cI cZ : ClassId) (q : Nat → Nat) (n : Nat) (S : Nat) (P : Nat) (x : St) (sl : Int32) (hn1 : 1 ≤ n) (hn5 : n ≤ 5) (hS1 : 1 ≤ S) (hS4 : S ≤ 4) (hP5 : 5 ≤ P) (hP64 : P ≤ 64) : MI l D [(cI, .int), (cZ, .boolean)] yDecreePool_chosen wsDecreePool_chosen ({ frames := 2, cells := 0, slots := 0, locals := 47 }) [.ref (q 0), .int sl] (wX q cI n S P x) (fun r w => r = aChosen n S x sl ∧ w = (wX q cI n S P x)) := by
  intro sz
  refine Met.ofW (cc := cDecreePool_chosen) (maxL := 2) (ret := (Option.some .int)) (by decide) rfl ?_
  intro p e s m args below meth c s₁ B hml hv
  obtain ⟨rfl, hsz, hP, hK, hD0, hZ⟩ := hv
  have hx := B.exec
  have hb := B.bytes
  have hr := B.returns
  have hts := atoms_spec (ws := wsDecreePool_chosen) B.pre
  have hown : s.vm.findClass RDecreePool = some m.cls := findClass_of_methodNamed B.named
  have hlocks := B.notSynchronized
  subst hsz
  have hD := hD0.self (sz := s.heap.size)
  generalize hAe : va_A (wX q cI n S P x) s.heap.size = A at hD ⊢
  have hA : ∀ q : Nat, s.heap.size ≤ q → A q := fun q h => by rw [← hAe]; exact Or.inr h
  have hS : va_S A s.heap s.heap [] := va_S.rf
  have hP : va_P D vwCl (wX q cI n S P x) s.heap := hP
  have hl := lv_entry ([.ref (q 0), .int sl]) (n := 2) (Nat.le_of_ble_eq_true rfl)
  rw [lg_entry_eq]
  generalize (lg_sl ([.ref (q 0), .int sl]) ++ List.replicate (2 - (lg_sl ([.ref (q 0), .int sl])).length) Slot.unset).toArray = ls at hl ⊢
  have hl : lv_has ls 2 [(0, .ref (q 0)), (1, .int sl)] := hl
  refine lv_aload_n hx hb dDecreePool_chosen_0 rfl (lv_at hl 0 rfl) ?_
  refine lv_iload_n hx hb dDecreePool_chosen_1 rfl (lv_at hl 1 rfl) ?_
  have hPc := hP.sub (ws' := (wX q cI n S P x)) [0, 1, 2, 3, 4, 5, 6, 7, 8, 9, 10, 11, 12, 13, 14, 15] rfl
  have hDc := hD.sub (ws' := (wX q cI n S P x)) [0, 1, 2, 3, 4, 5, 6, 7, 8, 9, 10, 11, 12, 13, 14, 15] (by decide) rfl
  refine kx_i (va_runV (As := [.int sl]) (rest := []) ⟨hx, hb, hml, hown, hts⟩ ((c_hasSlot l D cI cZ q n S P x sl (hn1) (hn5) (hS1) (hS4) (hP5) (hP64)) s.heap.size) (cwV 1 hts (gV wd145 wd147 sl_DecreePool_hasSlot wd1 wd148) rfl rfl rfl (by decide +kernel) ⟨Nat.le_of_ble_eq_true rfl, Nat.le_of_ble_eq_true rfl⟩) ⟨fb_PW, va_recv (q0 := 0) (ci := 0) hK hPc rfl rfl, pre_PW hK hPc hDc hZ⟩ rfl rfl hl.1 rfl (lv_room (Nat.le_of_ble_eq_true rfl)) dDecreePool_chosen_2 ⟨Nat.zero_le _, Nat.zero_le _⟩) hP hD hS hA [0, 1, 2, 3, 4, 5, 6, 7, 8, 9, 10, 11, 12, 13, 14, 15] [] rfl rfl (by decide) (by decide) (fun r w1 H locs hw hP hD hS => ?_)
  rcases hw with ⟨rfl, h2, rfl⟩ | ⟨rfl, h2, rfl⟩
  · have hP : va_P D vwCl (wX q cI n S P x) H := hP
    have hD : va_D A (wX q cI n S P x) := hD
    obtain ⟨t, ht, rfl⟩ := okN_of (show S < 2 ^ 31 by omega) h2
    refine lv_if_eq (tgt := 19) hx hb dDecreePool_chosen_5 (by decide) (fun h9 => absurd h9 (by decide)) (fun _ => ?_)
    refine lv_aload_n hx hb dDecreePool_chosen_8 rfl (lv_at hl 0 rfl) ?_
    refine va_get (D := D) (ci := 0) (v := .ref (q 9)) (C := RDecreePool) (T := TDecreePool) (N := 9) hx hb hts (fun w h => mc (uDecreePool_in w h)) hown hK hP 0 rfl rfl 4 (by decide) (hts _ (mc wd109)) (fun _ h9 => h9) rfl dDecreePool_chosen_9 ?_
    refine lv_iload_n hx hb dDecreePool_chosen_12 rfl (lv_at hl 1 rfl) ?_
    have hPc := hP.sub (ws' := (wAc q cI n S (n * S) (sq S (x.1 8)) (sq S (x.1 9)) (sq S (x.1 10)))) [9, 10, 11, 12] rfl
    have hDc := hD.sub (ws' := (wAc q cI n S (n * S) (sq S (x.1 8)) (sq S (x.1 9)) (sq S (x.1 10)))) [9, 10, 11, 12] (by decide) rfl
    refine kx_i (va_runV (As := [.int (nI t)]) (rest := []) ⟨hx, hb, hml, hown, hts⟩ ((c_majorityValue l D cI cZ q n S (n * S) (sq S (x.1 8)) (sq S (x.1 9)) (sq S (x.1 10)) t (L20 hn5 hS4) (hn5) (hS4) (ht) (fun _ _ => seat_lt)) H.size) (cwV 1 hts (gV wd367 wd368 wd369 wd5 wd370) rfl rfl rfl (by decide +kernel) ⟨Nat.le_of_ble_eq_true rfl, Nat.le_of_ble_eq_true rfl⟩) ⟨fb_PW, va_recv (q0 := 0) (ci := 3) hK hPc rfl rfl, pre_PW hK hPc hDc hZ⟩ rfl rfl hl.1 rfl (lv_room (Nat.le_of_ble_eq_true rfl)) dDecreePool_chosen_13 ⟨Nat.zero_le _, Nat.zero_le _⟩) hP hD hS hA [9, 10, 11, 12] [0, 1, 2, 3, 4, 5, 6, 7, 8, 13, 14, 15] rfl rfl (by decide) (by decide) (fun r w1 H locs hw hP hD hS => ?_)
    obtain ⟨rfl, rfl⟩ := hw
    have hP : va_P D vwCl (wX q cI n S P x) H := hP.sub [0, 1, 2, 3, 4, 5, 6, 7, 8, 12, 13, 14, 15, 9, 10, 11] rfl
    have hD : va_D A (wX q cI n S P x) := hD.sub [0, 1, 2, 3, 4, 5, 6, 7, 8, 12, 13, 14, 15, 9, 10, 11] (by decide) rfl
    refine lv_topi (nm_r (show cho n (fun a => sq S (x.1 9) (a * S + t)) (fun a => sq S (x.1 10) (a * S + t)) n 0 = cho n (fun a => x.1 9 a t) (fun a => x.1 10 a t) n 0 by simp only [sq_at ht]) ?_)
    refine lv_goto (tgt := 20) hx hb dDecreePool_chosen_16 (by decide) ?_
    exact W.iret (v := cho n (fun a => x.1 9 a t) (fun a => x.1 10 a t) n 0) hx hb hr (fun t9 ht9 hW9 => ⟨⟨cho n (fun a => x.1 9 a t) (fun a => x.1 10 a t) n 0, (wX q cI n S P x), rfl, ⟨by unfold aChosen; rw [if_pos h2, ix_nI ht (by omega)], rfl⟩, by rw [ht9]; exact hP, va_K.moved hW9.alike hK, hD⟩, hS.F ht9⟩) hS.2.2 dDecreePool_chosen_20
  · have hP : va_P D vwCl (wX q cI n S P x) H := hP
    have hD : va_D A (wX q cI n S P x) := hD
    refine lv_if_eq (tgt := 19) hx hb dDecreePool_chosen_5 (by decide) (fun _ => ?_) (fun h9 => absurd (by decide) h9)
    refine lv_iconst (v := (-1)) hx hb dDecreePool_chosen_19 (by decide) ?_
    exact W.iret (v := (-1)) hx hb hr (fun t9 ht9 hW9 => ⟨⟨(-1), (wX q cI n S P x), rfl, ⟨by unfold aChosen; rw [if_neg h2], rfl⟩, by rw [ht9]; exact hP, va_K.moved hW9.alike hK, hD⟩, hS.F ht9⟩) hS.2.2 dDecreePool_chosen_20
theorem dDecreePool_pfx_0 : decode cDecreePool_pfx 0 = .ok (.aload_n 0, 1) := by decide +kernel
theorem dDecreePool_pfx_1 : decode cDecreePool_pfx 1 = .ok (.iload_n 1, 1) := by decide +kernel
theorem dDecreePool_pfx_2 : decode cDecreePool_pfx 2 = .ok (.invokevirtual 110, 3) := by decide +kernel
theorem dDecreePool_pfx_5 : decode cDecreePool_pfx 5 = .ok (.ifCond .eq 11, 3) := by decide +kernel
theorem dDecreePool_pfx_8 : decode cDecreePool_pfx 8 = .ok (.aload_n 0, 1) := by decide +kernel
theorem dDecreePool_pfx_9 : decode cDecreePool_pfx 9 = .ok (.iload_n 1, 1) := by decide +kernel
theorem dDecreePool_pfx_10 : decode cDecreePool_pfx 10 = .ok (.invokevirtual 155, 3) := by decide +kernel
theorem dDecreePool_pfx_13 : decode cDecreePool_pfx 13 = .ok (.goto 4, 3) := by decide +kernel
theorem dDecreePool_pfx_16 : decode cDecreePool_pfx 16 = .ok (.iconst (-1), 1) := by decide +kernel
theorem dDecreePool_pfx_17 : decode cDecreePool_pfx 17 = .ok (.ireturn, 1) := by decide +kernel
set_option maxRecDepth 100000 in
set_option maxHeartbeats 4000000 in
theorem c_pfx (l : Launch) (D : va_G) (cI cZ : ClassId) (q : Nat → Nat) (n : Nat) (S : Nat) (P : Nat) (x : St) (nd : Int32) (hn1 : 1 ≤ n) (hn5 : n ≤ 5) (hS1 : 1 ≤ S) (hS4 : S ≤ 4) (hP5 : 5 ≤ P) (hP64 : P ≤ 64) : MI l D [(cI, .int), (cZ, .boolean)] yDecreePool_pfx wsDecreePool_pfx ({ frames := 2, cells := 0, slots := 0, locals := 44 }) [.ref (q 0), .int nd] (wX q cI n S P x) (fun r w => r = aPfx n S x nd ∧ w = (wX q cI n S P x)) := by
  intro sz
  refine Met.ofW (cc := cDecreePool_pfx) (maxL := 2) (ret := (Option.some .int)) (by decide) rfl ?_
  intro p e s m args below meth c s₁ B hml hv
  obtain ⟨rfl, hsz, hP, hK, hD0, hZ⟩ := hv
  have hx := B.exec
  have hb := B.bytes
  have hr := B.returns
  have hts := atoms_spec (ws := wsDecreePool_pfx) B.pre
  have hown : s.vm.findClass RDecreePool = some m.cls := findClass_of_methodNamed B.named
  have hlocks := B.notSynchronized
  subst hsz
  have hD := hD0.self (sz := s.heap.size)
  generalize hAe : va_A (wX q cI n S P x) s.heap.size = A at hD ⊢
  have hA : ∀ q : Nat, s.heap.size ≤ q → A q := fun q h => by rw [← hAe]; exact Or.inr h
  have hS : va_S A s.heap s.heap [] := va_S.rf
  have hP : va_P D vwCl (wX q cI n S P x) s.heap := hP
  have hl := lv_entry ([.ref (q 0), .int nd]) (n := 2) (Nat.le_of_ble_eq_true rfl)
  rw [lg_entry_eq]
  generalize (lg_sl ([.ref (q 0), .int nd]) ++ List.replicate (2 - (lg_sl ([.ref (q 0), .int nd])).length) Slot.unset).toArray = ls at hl ⊢
  have hl : lv_has ls 2 [(0, .ref (q 0)), (1, .int nd)] := hl
  refine lv_aload_n hx hb dDecreePool_pfx_0 rfl (lv_at hl 0 rfl) ?_
  refine lv_iload_n hx hb dDecreePool_pfx_1 rfl (lv_at hl 1 rfl) ?_
  have hPc := hP.sub (ws' := (wX q cI n S P x)) [0, 1, 2, 3, 4, 5, 6, 7, 8, 9, 10, 11, 12, 13, 14, 15] rfl
  have hDc := hD.sub (ws' := (wX q cI n S P x)) [0, 1, 2, 3, 4, 5, 6, 7, 8, 9, 10, 11, 12, 13, 14, 15] (by decide) rfl
  refine kx_i (va_runV (As := [.int nd]) (rest := []) ⟨hx, hb, hml, hown, hts⟩ ((c_hasNode l D cI cZ q n S P x nd (hn1) (hn5) (hS1) (hS4) (hP5) (hP64)) s.heap.size) (cwV 1 hts (gV wd141 wd143 sl_DecreePool_hasNode wd1 wd144) rfl rfl rfl (by decide +kernel) ⟨Nat.le_of_ble_eq_true rfl, Nat.le_of_ble_eq_true rfl⟩) ⟨fb_PW, va_recv (q0 := 0) (ci := 0) hK hPc rfl rfl, pre_PW hK hPc hDc hZ⟩ rfl rfl hl.1 rfl (lv_room (Nat.le_of_ble_eq_true rfl)) dDecreePool_pfx_2 ⟨Nat.zero_le _, Nat.zero_le _⟩) hP hD hS hA [0, 1, 2, 3, 4, 5, 6, 7, 8, 9, 10, 11, 12, 13, 14, 15] [] rfl rfl (by decide) (by decide) (fun r w1 H locs hw hP hD hS => ?_)
  rcases hw with ⟨rfl, h2, rfl⟩ | ⟨rfl, h2, rfl⟩
  · have hP : va_P D vwCl (wX q cI n S P x) H := hP
    have hD : va_D A (wX q cI n S P x) := hD
    obtain ⟨a, ha, rfl⟩ := okN_of (show n < 2 ^ 31 by omega) h2
    refine lv_if_eq (tgt := 16) hx hb dDecreePool_pfx_5 (by decide) (fun h9 => absurd h9 (by decide)) (fun _ => ?_)
    refine lv_aload_n hx hb dDecreePool_pfx_8 rfl (lv_at hl 0 rfl) ?_
    refine lv_iload_n hx hb dDecreePool_pfx_9 rfl (lv_at hl 1 rfl) ?_
    have hPc := hP.sub (ws' := (wX q cI n S P x)) [0, 1, 2, 3, 4, 5, 6, 7, 8, 9, 10, 11, 12, 13, 14, 15] rfl
    have hDc := hD.sub (ws' := (wX q cI n S P x)) [0, 1, 2, 3, 4, 5, 6, 7, 8, 9, 10, 11, 12, 13, 14, 15] (by decide) rfl
    refine kx_i (va_runV (As := [.int (nI a)]) (rest := []) ⟨hx, hb, hml, hown, hts⟩ ((c_pfxLength l D cI cZ q n S P x a (hn1) (hn5) (hS1) (hS4) (hP5) (hP64) (ha)) H.size) (cwV 1 hts (gV wd380 wd382 sl_DecreePool_prefixLength wd1 wd383) rfl rfl rfl (by decide +kernel) ⟨Nat.le_of_ble_eq_true rfl, Nat.le_of_ble_eq_true rfl⟩) ⟨fb_PW, va_recv (q0 := 0) (ci := 0) hK hPc rfl rfl, pre_PW hK hPc hDc hZ⟩ rfl rfl hl.1 rfl (lv_room (Nat.le_of_ble_eq_true rfl)) dDecreePool_pfx_10 ⟨Nat.zero_le _, Nat.zero_le _⟩) hP hD hS hA [0, 1, 2, 3, 4, 5, 6, 7, 8, 9, 10, 11, 12, 13, 14, 15] [] rfl rfl (by decide) (by decide) (fun r w1 H locs hw hP hD hS => ?_)
    obtain ⟨rfl, rfl⟩ := hw
    have hP : va_P D vwCl (wX q cI n S P x) H := hP
    have hD : va_D A (wX q cI n S P x) := hD
    refine lv_goto (tgt := 17) hx hb dDecreePool_pfx_13 (by decide) ?_
    exact W.iret (v := nI (lst (x.1 11 a) S 0)) hx hb hr (fun t9 ht9 hW9 => ⟨⟨nI (lst (x.1 11 a) S 0), (wX q cI n S P x), rfl, ⟨by unfold aPfx; rw [if_pos h2, ix_nI ha (by omega)], rfl⟩, by rw [ht9]; exact hP, va_K.moved hW9.alike hK, hD⟩, hS.F ht9⟩) hS.2.2 dDecreePool_pfx_17
  · have hP : va_P D vwCl (wX q cI n S P x) H := hP
    have hD : va_D A (wX q cI n S P x) := hD
    refine lv_if_eq (tgt := 16) hx hb dDecreePool_pfx_5 (by decide) (fun _ => ?_) (fun h9 => absurd (by decide) h9)
    refine lv_iconst (v := (-1)) hx hb dDecreePool_pfx_16 (by decide) ?_
    exact W.iret (v := (-1)) hx hb hr (fun t9 ht9 hW9 => ⟨⟨(-1), (wX q cI n S P x), rfl, ⟨by unfold aPfx; rw [if_neg h2], rfl⟩, by rw [ht9]; exact hP, va_K.moved hW9.alike hK, hD⟩, hS.F ht9⟩) hS.2.2 dDecreePool_pfx_17
theorem dDecreePool_count_0 : decode cDecreePool_count 0 = .ok (.iload_n 1, 1) := by decide +kernel
theorem dDecreePool_count_1 : decode cDecreePool_count 1 = .ok (.tableswitch 84 0 6 #[43, 51, 56, 61, 69, 74, 79], 43) := by decide +kernel
theorem dDecreePool_count_44 : decode cDecreePool_count 44 = .ok (.aload_n 0, 1) := by decide +kernel
theorem dDecreePool_count_45 : decode cDecreePool_count 45 = .ok (.getfield 25, 3) := by decide +kernel
theorem dDecreePool_count_48 : decode cDecreePool_count 48 = .ok (.invokevirtual 158, 3) := by decide +kernel
theorem dDecreePool_count_51 : decode cDecreePool_count 51 = .ok (.ireturn, 1) := by decide +kernel
theorem dDecreePool_count_52 : decode cDecreePool_count 52 = .ok (.aload_n 0, 1) := by decide +kernel
theorem dDecreePool_count_53 : decode cDecreePool_count 53 = .ok (.getfield 13, 3) := by decide +kernel
theorem dDecreePool_count_56 : decode cDecreePool_count 56 = .ok (.ireturn, 1) := by decide +kernel
theorem dDecreePool_count_57 : decode cDecreePool_count 57 = .ok (.aload_n 0, 1) := by decide +kernel
theorem dDecreePool_count_58 : decode cDecreePool_count 58 = .ok (.getfield 17, 3) := by decide +kernel
theorem dDecreePool_count_61 : decode cDecreePool_count 61 = .ok (.ireturn, 1) := by decide +kernel
theorem dDecreePool_count_62 : decode cDecreePool_count 62 = .ok (.aload_n 0, 1) := by decide +kernel
theorem dDecreePool_count_63 : decode cDecreePool_count 63 = .ok (.getfield 25, 3) := by decide +kernel
theorem dDecreePool_count_66 : decode cDecreePool_count 66 = .ok (.invokevirtual 161, 3) := by decide +kernel
theorem dDecreePool_count_69 : decode cDecreePool_count 69 = .ok (.ireturn, 1) := by decide +kernel
theorem dDecreePool_count_70 : decode cDecreePool_count 70 = .ok (.aload_n 0, 1) := by decide +kernel
theorem dDecreePool_count_71 : decode cDecreePool_count 71 = .ok (.getfield 55, 3) := by decide +kernel
theorem dDecreePool_count_74 : decode cDecreePool_count 74 = .ok (.ireturn, 1) := by decide +kernel
theorem dDecreePool_count_75 : decode cDecreePool_count 75 = .ok (.aload_n 0, 1) := by decide +kernel
theorem dDecreePool_count_76 : decode cDecreePool_count 76 = .ok (.getfield 58, 3) := by decide +kernel
theorem dDecreePool_count_79 : decode cDecreePool_count 79 = .ok (.ireturn, 1) := by decide +kernel
theorem dDecreePool_count_80 : decode cDecreePool_count 80 = .ok (.aload_n 0, 1) := by decide +kernel
theorem dDecreePool_count_81 : decode cDecreePool_count 81 = .ok (.getfield 52, 3) := by decide +kernel
theorem dDecreePool_count_84 : decode cDecreePool_count 84 = .ok (.ireturn, 1) := by decide +kernel
theorem dDecreePool_count_85 : decode cDecreePool_count 85 = .ok (.iconst (-1), 1) := by decide +kernel
theorem dDecreePool_count_86 : decode cDecreePool_count 86 = .ok (.ireturn, 1) := by decide +kernel
set_option maxRecDepth 100000 in
set_option maxHeartbeats 4000000 in
theorem c_count (l : Launch) (D : va_G) (cI cZ : ClassId) (q : Nat → Nat) (n : Nat) (S : Nat) (P : Nat) (x : St) (wt : Int32) (hn1 : 1 ≤ n) (hn5 : n ≤ 5) (hS1 : 1 ≤ S) (hS4 : S ≤ 4) (hP5 : 5 ≤ P) (hP64 : P ≤ 64) : MI l D [(cI, .int), (cZ, .boolean)] yDecreePool_count wsDecreePool_count ({ frames := 1, cells := 0, slots := 0, locals := 20 }) [.ref (q 0), .int wt] (wX q cI n S P x) (fun r w => r = aCount n S P x wt ∧ w = (wX q cI n S P x)) := by
  intro sz
  refine Met.ofW (cc := cDecreePool_count) (maxL := 2) (ret := (Option.some .int)) (by decide) rfl ?_
  intro p e s m args below meth c s₁ B hml hv
  obtain ⟨rfl, hsz, hP, hK, hD0, hZ⟩ := hv
  have hx := B.exec
  have hb := B.bytes
  have hr := B.returns
  have hts := atoms_spec (ws := wsDecreePool_count) B.pre
  have hown : s.vm.findClass RDecreePool = some m.cls := findClass_of_methodNamed B.named
  have hlocks := B.notSynchronized
  subst hsz
  have hD := hD0.self (sz := s.heap.size)
  generalize hAe : va_A (wX q cI n S P x) s.heap.size = A at hD ⊢
  have hA : ∀ q : Nat, s.heap.size ≤ q → A q := fun q h => by rw [← hAe]; exact Or.inr h
  have hS : va_S A s.heap s.heap [] := va_S.rf
  have hP : va_P D vwCl (wX q cI n S P x) s.heap := hP
  have hl := lv_entry ([.ref (q 0), .int wt]) (n := 2) (Nat.le_of_ble_eq_true rfl)
  rw [lg_entry_eq]
  generalize (lg_sl ([.ref (q 0), .int wt]) ++ List.replicate (2 - (lg_sl ([.ref (q 0), .int wt])).length) Slot.unset).toArray = ls at hl ⊢
  have hl : lv_has ls 2 [(0, .ref (q 0)), (1, .int wt)] := hl
  refine lv_iload_n hx hb dDecreePool_count_0 rfl (lv_at hl 1 rfl) ?_
  by_cases k1_0 : wt = nI 0
  · refine lv_topi (nm_r (k1_0) ?_)
    refine lv_tableIn (tgt := 44) hx hb dDecreePool_count_1 (by decide) (by decide) rfl (by decide) ?_
    refine lv_aload_n hx hb dDecreePool_count_44 rfl (lv_at hl 0 rfl) ?_
    refine va_get (D := D) (ci := 0) (v := .ref (q 1)) (C := RDecreePool) (T := TDecreePool) (N := 9) hx hb hts (fun w h => mc (uDecreePool_in w h)) hown hK hP 0 rfl rfl 2 (by decide) (hts _ (mc wd107)) (fun _ h9 => h9) rfl dDecreePool_count_45 ?_
    have hPc := hP.sub (ws' := (wPo q cI P (x.1 0) (cntx P x))) [1, 2] rfl
    have hDc := hD.sub (ws' := (wPo q cI P (x.1 0) (cntx P x))) [1, 2] (by decide) rfl
    refine kx_i (va_runV (As := []) (rest := []) ⟨hx, hb, hml, hown, hts⟩ ((c_messages l D cI cZ q P (x.1 0) (cntx P x)) s.heap.size) (cwV 0 hts (gV wd392 wd393 wd394 wd2 wd395) rfl rfl rfl (by decide +kernel) ⟨Nat.le_of_ble_eq_true rfl, Nat.le_of_ble_eq_true rfl⟩) ⟨fb_PW, va_recv (q0 := 0) (ci := 1) hK hPc rfl rfl, pre_PW hK hPc hDc hZ⟩ rfl rfl hl.1 rfl (lv_room (Nat.le_of_ble_eq_true rfl)) dDecreePool_count_48 ⟨Nat.zero_le _, Nat.zero_le _⟩) hP hD hS hA [1, 2] [0, 3, 4, 5, 6, 7, 8, 9, 10, 11, 12, 13, 14, 15] rfl rfl (by decide) (by decide) (fun r w1 H locs hw hP hD hS => ?_)
    obtain ⟨rfl, rfl⟩ := hw
    have hP : va_P D vwCl (wX q cI n S P x) H := hP.sub [0, 14, 15, 1, 2, 3, 4, 5, 6, 7, 8, 9, 10, 11, 12, 13] rfl
    have hD : va_D A (wX q cI n S P x) := hD.sub [0, 14, 15, 1, 2, 3, 4, 5, 6, 7, 8, 9, 10, 11, 12, 13] (by decide) rfl
    exact W.iret (v := nI (cntx P x)) hx hb hr (fun t9 ht9 hW9 => ⟨⟨nI (cntx P x), (wX q cI n S P x), rfl, ⟨by unfold aCount; rw [if_pos k1_0], rfl⟩, by rw [ht9]; exact hP, va_K.moved hW9.alike hK, hD⟩, hS.F ht9⟩) hS.2.2 dDecreePool_count_51
  by_cases k1_1 : wt = nI 1
  · refine lv_topi (nm_r (k1_1) ?_)
    refine lv_tableIn (tgt := 52) hx hb dDecreePool_count_1 (by decide) (by decide) rfl (by decide) ?_
    refine lv_aload_n hx hb dDecreePool_count_52 rfl (lv_at hl 0 rfl) ?_
    refine va_get (D := D) (ci := 0) (v := .int (nI n)) (C := RDecreePool) (T := TDecreePool) (N := 9) hx hb hts (fun w h => mc (uDecreePool_in w h)) hown hK hP 0 rfl rfl 0 (by decide) (hts _ (mc wd105)) (fun _ h9 => h9) rfl dDecreePool_count_53 ?_
    exact W.iret (v := nI n) hx hb hr (fun t9 ht9 hW9 => ⟨⟨nI n, (wX q cI n S P x), rfl, ⟨by unfold aCount; rw [if_neg k1_0, if_pos k1_1], rfl⟩, by rw [ht9]; exact hP, va_K.moved hW9.alike hK, hD⟩, hS.F ht9⟩) hS.2.2 dDecreePool_count_56
  by_cases k1_2 : wt = nI 2
  · refine lv_topi (nm_r (k1_2) ?_)
    refine lv_tableIn (tgt := 57) hx hb dDecreePool_count_1 (by decide) (by decide) rfl (by decide) ?_
    refine lv_aload_n hx hb dDecreePool_count_57 rfl (lv_at hl 0 rfl) ?_
    refine va_get (D := D) (ci := 0) (v := .int (nI S)) (C := RDecreePool) (T := TDecreePool) (N := 9) hx hb hts (fun w h => mc (uDecreePool_in w h)) hown hK hP 0 rfl rfl 1 (by decide) (hts _ (mc wd106)) (fun _ h9 => h9) rfl dDecreePool_count_58 ?_
    exact W.iret (v := nI S) hx hb hr (fun t9 ht9 hW9 => ⟨⟨nI S, (wX q cI n S P x), rfl, ⟨by unfold aCount; rw [if_neg k1_0, if_neg k1_1, if_pos k1_2], rfl⟩, by rw [ht9]; exact hP, va_K.moved hW9.alike hK, hD⟩, hS.F ht9⟩) hS.2.2 dDecreePool_count_61
  by_cases k1_3 : wt = nI 3
  · refine lv_topi (nm_r (k1_3) ?_)
    refine lv_tableIn (tgt := 62) hx hb dDecreePool_count_1 (by decide) (by decide) rfl (by decide) ?_
    refine lv_aload_n hx hb dDecreePool_count_62 rfl (lv_at hl 0 rfl) ?_
    refine va_get (D := D) (ci := 0) (v := .ref (q 1)) (C := RDecreePool) (T := TDecreePool) (N := 9) hx hb hts (fun w h => mc (uDecreePool_in w h)) hown hK hP 0 rfl rfl 2 (by decide) (hts _ (mc wd107)) (fun _ h9 => h9) rfl dDecreePool_count_63 ?_
    have hPc := hP.sub (ws' := (wPo q cI P (x.1 0) (cntx P x))) [1, 2] rfl
    have hDc := hD.sub (ws' := (wPo q cI P (x.1 0) (cntx P x))) [1, 2] (by decide) rfl
    refine kx_i (va_runV (As := []) (rest := []) ⟨hx, hb, hml, hown, hts⟩ ((c_places l D cI cZ q P (x.1 0) (cntx P x)) s.heap.size) (cwV 0 hts (gV wd287 wd288 wd289 wd2 wd290) rfl rfl rfl (by decide +kernel) ⟨Nat.le_of_ble_eq_true rfl, Nat.le_of_ble_eq_true rfl⟩) ⟨fb_PW, va_recv (q0 := 0) (ci := 1) hK hPc rfl rfl, pre_PW hK hPc hDc hZ⟩ rfl rfl hl.1 rfl (lv_room (Nat.le_of_ble_eq_true rfl)) dDecreePool_count_66 ⟨Nat.zero_le _, Nat.zero_le _⟩) hP hD hS hA [1, 2] [0, 3, 4, 5, 6, 7, 8, 9, 10, 11, 12, 13, 14, 15] rfl rfl (by decide) (by decide) (fun r w1 H locs hw hP hD hS => ?_)
    obtain ⟨rfl, rfl⟩ := hw
    have hP : va_P D vwCl (wX q cI n S P x) H := hP.sub [0, 14, 15, 1, 2, 3, 4, 5, 6, 7, 8, 9, 10, 11, 12, 13] rfl
    have hD : va_D A (wX q cI n S P x) := hD.sub [0, 14, 15, 1, 2, 3, 4, 5, 6, 7, 8, 9, 10, 11, 12, 13] (by decide) rfl
    exact W.iret (v := nI P) hx hb hr (fun t9 ht9 hW9 => ⟨⟨nI P, (wX q cI n S P x), rfl, ⟨by unfold aCount; rw [if_neg k1_0, if_neg k1_1, if_neg k1_2, if_pos k1_3], rfl⟩, by rw [ht9]; exact hP, va_K.moved hW9.alike hK, hD⟩, hS.F ht9⟩) hS.2.2 dDecreePool_count_69
  by_cases k1_4 : wt = nI 4
  · refine lv_topi (nm_r (k1_4) ?_)
    refine lv_tableIn (tgt := 70) hx hb dDecreePool_count_1 (by decide) (by decide) rfl (by decide) ?_
    refine lv_aload_n hx hb dDecreePool_count_70 rfl (lv_at hl 0 rfl) ?_
    refine va_get (D := D) (ci := 0) (v := .int (x.1 12 0 0)) (C := RDecreePool) (T := TDecreePool) (N := 9) hx hb hts (fun w h => mc (uDecreePool_in w h)) hown hK hP 0 rfl rfl 7 (by decide) (hts _ (mc wd112)) (fun _ h9 => h9) rfl dDecreePool_count_71 ?_
    exact W.iret (v := x.1 12 0 0) hx hb hr (fun t9 ht9 hW9 => ⟨⟨x.1 12 0 0, (wX q cI n S P x), rfl, ⟨by unfold aCount; rw [if_neg k1_0, if_neg k1_1, if_neg k1_2, if_neg k1_3, if_pos k1_4], rfl⟩, by rw [ht9]; exact hP, va_K.moved hW9.alike hK, hD⟩, hS.F ht9⟩) hS.2.2 dDecreePool_count_74
  by_cases k1_5 : wt = nI 5
  · refine lv_topi (nm_r (k1_5) ?_)
    refine lv_tableIn (tgt := 75) hx hb dDecreePool_count_1 (by decide) (by decide) rfl (by decide) ?_
    refine lv_aload_n hx hb dDecreePool_count_75 rfl (lv_at hl 0 rfl) ?_
    refine va_get (D := D) (ci := 0) (v := .int (x.1 12 0 1)) (C := RDecreePool) (T := TDecreePool) (N := 9) hx hb hts (fun w h => mc (uDecreePool_in w h)) hown hK hP 0 rfl rfl 8 (by decide) (hts _ (mc wd113)) (fun _ h9 => h9) rfl dDecreePool_count_76 ?_
    exact W.iret (v := x.1 12 0 1) hx hb hr (fun t9 ht9 hW9 => ⟨⟨x.1 12 0 1, (wX q cI n S P x), rfl, ⟨by unfold aCount; rw [if_neg k1_0, if_neg k1_1, if_neg k1_2, if_neg k1_3, if_neg k1_4, if_pos k1_5], rfl⟩, by rw [ht9]; exact hP, va_K.moved hW9.alike hK, hD⟩, hS.F ht9⟩) hS.2.2 dDecreePool_count_79
  by_cases k1_6 : wt = nI 6
  · refine lv_topi (nm_r (k1_6) ?_)
    refine lv_tableIn (tgt := 80) hx hb dDecreePool_count_1 (by decide) (by decide) rfl (by decide) ?_
    refine lv_aload_n hx hb dDecreePool_count_80 rfl (lv_at hl 0 rfl) ?_
    refine va_get (D := D) (ci := 0) (v := .int (nI (msk (col (x.1 13) 0) n))) (C := RDecreePool) (T := TDecreePool) (N := 9) hx hb hts (fun w h => mc (uDecreePool_in w h)) hown hK hP 0 rfl rfl 6 (by decide) (hts _ (mc wd111)) (fun _ h9 => h9) rfl dDecreePool_count_81 ?_
    exact W.iret (v := nI (msk (col (x.1 13) 0) n)) hx hb hr (fun t9 ht9 hW9 => ⟨⟨nI (msk (col (x.1 13) 0) n), (wX q cI n S P x), rfl, ⟨by unfold aCount; rw [if_neg k1_0, if_neg k1_1, if_neg k1_2, if_neg k1_3, if_neg k1_4, if_neg k1_5, if_pos k1_6], rfl⟩, by rw [ht9]; exact hP, va_K.moved hW9.alike hK, hD⟩, hS.F ht9⟩) hS.2.2 dDecreePool_count_84
  refine lv_tableOut (tgt := 85) hx hb dDecreePool_count_1 (tb_out 0 6 (by intro j h1 h2; rcases (show j = 0 ∨ j = 1 ∨ j = 2 ∨ j = 3 ∨ j = 4 ∨ j = 5 ∨ j = 6 by omega) with rfl | rfl | rfl | rfl | rfl | rfl | rfl <;> assumption)) (by decide) ?_
  refine lv_iconst (v := (-1)) hx hb dDecreePool_count_85 (by decide) ?_
  exact W.iret (v := (-1)) hx hb hr (fun t9 ht9 hW9 => ⟨⟨(-1), (wX q cI n S P x), rfl, ⟨by unfold aCount; rw [if_neg k1_0, if_neg k1_1, if_neg k1_2, if_neg k1_3, if_neg k1_4, if_neg k1_5, if_neg k1_6], rfl⟩, by rw [ht9]; exact hP, va_K.moved hW9.alike hK, hD⟩, hS.F ht9⟩) hS.2.2 dDecreePool_count_86
