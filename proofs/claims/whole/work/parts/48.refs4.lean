theorem dModel_chosen_0 : decode cModel_chosen 0 = .ok (.aload_n 0, 1) := by decide +kernel
theorem dModel_chosen_1 : decode cModel_chosen 1 = .ok (.iload_n 1, 1) := by decide +kernel
theorem dModel_chosen_2 : decode cModel_chosen 2 = .ok (.invokevirtual 89, 3) := by decide +kernel
theorem dModel_chosen_5 : decode cModel_chosen 5 = .ok (.ifCond .ne 5, 3) := by decide +kernel
theorem dModel_chosen_8 : decode cModel_chosen 8 = .ok (.iconst (-1), 1) := by decide +kernel
theorem dModel_chosen_9 : decode cModel_chosen 9 = .ok (.ireturn, 1) := by decide +kernel
theorem dModel_chosen_10 : decode cModel_chosen 10 = .ok (.iconst 0, 1) := by decide +kernel
theorem dModel_chosen_11 : decode cModel_chosen 11 = .ok (.istore_n 2, 1) := by decide +kernel
theorem dModel_chosen_12 : decode cModel_chosen 12 = .ok (.iconst 0, 1) := by decide +kernel
theorem dModel_chosen_13 : decode cModel_chosen 13 = .ok (.istore_n 3, 1) := by decide +kernel
theorem dModel_chosen_14 : decode cModel_chosen 14 = .ok (.iload_n 3, 1) := by decide +kernel
theorem dModel_chosen_15 : decode cModel_chosen 15 = .ok (.aload_n 0, 1) := by decide +kernel
theorem dModel_chosen_16 : decode cModel_chosen 16 = .ok (.getfield 71, 3) := by decide +kernel
theorem dModel_chosen_19 : decode cModel_chosen 19 = .ok (.if_icmp .ge 102, 3) := by decide +kernel
theorem dModel_chosen_22 : decode cModel_chosen 22 = .ok (.iconst 0, 1) := by decide +kernel
theorem dModel_chosen_23 : decode cModel_chosen 23 = .ok (.istore 4, 2) := by decide +kernel
theorem dModel_chosen_25 : decode cModel_chosen 25 = .ok (.iconst 0, 1) := by decide +kernel
theorem dModel_chosen_26 : decode cModel_chosen 26 = .ok (.istore 5, 2) := by decide +kernel
theorem dModel_chosen_28 : decode cModel_chosen 28 = .ok (.iload 5, 2) := by decide +kernel
theorem dModel_chosen_30 : decode cModel_chosen 30 = .ok (.aload_n 0, 1) := by decide +kernel
theorem dModel_chosen_31 : decode cModel_chosen 31 = .ok (.getfield 71, 3) := by decide +kernel
theorem dModel_chosen_34 : decode cModel_chosen 34 = .ok (.if_icmp .ge 44, 3) := by decide +kernel
theorem dModel_chosen_37 : decode cModel_chosen 37 = .ok (.aload_n 0, 1) := by decide +kernel
theorem dModel_chosen_38 : decode cModel_chosen 38 = .ok (.getfield 56, 3) := by decide +kernel
theorem dModel_chosen_41 : decode cModel_chosen 41 = .ok (.iconst 4, 1) := by decide +kernel
theorem dModel_chosen_42 : decode cModel_chosen 42 = .ok (.iload 5, 2) := by decide +kernel
theorem dModel_chosen_44 : decode cModel_chosen 44 = .ok (.imul, 1) := by decide +kernel
theorem dModel_chosen_45 : decode cModel_chosen 45 = .ok (.iload_n 1, 1) := by decide +kernel
theorem dModel_chosen_46 : decode cModel_chosen 46 = .ok (.iadd, 1) := by decide +kernel
theorem dModel_chosen_47 : decode cModel_chosen 47 = .ok (.iaload, 1) := by decide +kernel
theorem dModel_chosen_48 : decode cModel_chosen 48 = .ok (.aload_n 0, 1) := by decide +kernel
theorem dModel_chosen_49 : decode cModel_chosen 49 = .ok (.getfield 56, 3) := by decide +kernel
theorem dModel_chosen_52 : decode cModel_chosen 52 = .ok (.iconst 4, 1) := by decide +kernel
theorem dModel_chosen_53 : decode cModel_chosen 53 = .ok (.iload_n 3, 1) := by decide +kernel
theorem dModel_chosen_54 : decode cModel_chosen 54 = .ok (.imul, 1) := by decide +kernel
theorem dModel_chosen_55 : decode cModel_chosen 55 = .ok (.iload_n 1, 1) := by decide +kernel
theorem dModel_chosen_56 : decode cModel_chosen 56 = .ok (.iadd, 1) := by decide +kernel
theorem dModel_chosen_57 : decode cModel_chosen 57 = .ok (.iaload, 1) := by decide +kernel
theorem dModel_chosen_58 : decode cModel_chosen 58 = .ok (.if_icmp .ne 10, 3) := by decide +kernel
theorem dModel_chosen_61 : decode cModel_chosen 61 = .ok (.iload 4, 2) := by decide +kernel
theorem dModel_chosen_63 : decode cModel_chosen 63 = .ok (.iconst 1, 1) := by decide +kernel
theorem dModel_chosen_64 : decode cModel_chosen 64 = .ok (.iadd, 1) := by decide +kernel
theorem dModel_chosen_65 : decode cModel_chosen 65 = .ok (.goto 5, 3) := by decide +kernel
theorem dModel_chosen_68 : decode cModel_chosen 68 = .ok (.iload 4, 2) := by decide +kernel
theorem dModel_chosen_70 : decode cModel_chosen 70 = .ok (.istore 4, 2) := by decide +kernel
theorem dModel_chosen_72 : decode cModel_chosen 72 = .ok (.iinc 5  1, 3) := by decide +kernel
theorem dModel_chosen_75 : decode cModel_chosen 75 = .ok (.goto (-47), 3) := by decide +kernel
theorem dModel_chosen_78 : decode cModel_chosen 78 = .ok (.aload_n 0, 1) := by decide +kernel
theorem dModel_chosen_79 : decode cModel_chosen 79 = .ok (.iload 4, 2) := by decide +kernel
theorem dModel_chosen_81 : decode cModel_chosen 81 = .ok (.invokevirtual 110, 3) := by decide +kernel
theorem dModel_chosen_84 : decode cModel_chosen 84 = .ok (.ifCond .eq 29, 3) := by decide +kernel
theorem dModel_chosen_87 : decode cModel_chosen 87 = .ok (.aload_n 0, 1) := by decide +kernel
theorem dModel_chosen_88 : decode cModel_chosen 88 = .ok (.getfield 56, 3) := by decide +kernel
theorem dModel_chosen_91 : decode cModel_chosen 91 = .ok (.iconst 4, 1) := by decide +kernel
theorem dModel_chosen_92 : decode cModel_chosen 92 = .ok (.iload_n 3, 1) := by decide +kernel
theorem dModel_chosen_93 : decode cModel_chosen 93 = .ok (.imul, 1) := by decide +kernel
theorem dModel_chosen_94 : decode cModel_chosen 94 = .ok (.iload_n 1, 1) := by decide +kernel
theorem dModel_chosen_95 : decode cModel_chosen 95 = .ok (.iadd, 1) := by decide +kernel
theorem dModel_chosen_96 : decode cModel_chosen 96 = .ok (.iaload, 1) := by decide +kernel
theorem dModel_chosen_97 : decode cModel_chosen 97 = .ok (.ifCond .lt 16, 3) := by decide +kernel
theorem dModel_chosen_100 : decode cModel_chosen 100 = .ok (.aload_n 0, 1) := by decide +kernel
theorem dModel_chosen_101 : decode cModel_chosen 101 = .ok (.getfield 59, 3) := by decide +kernel
theorem dModel_chosen_104 : decode cModel_chosen 104 = .ok (.iconst 4, 1) := by decide +kernel
theorem dModel_chosen_105 : decode cModel_chosen 105 = .ok (.iload_n 3, 1) := by decide +kernel
theorem dModel_chosen_106 : decode cModel_chosen 106 = .ok (.imul, 1) := by decide +kernel
theorem dModel_chosen_107 : decode cModel_chosen 107 = .ok (.iload_n 1, 1) := by decide +kernel
theorem dModel_chosen_108 : decode cModel_chosen 108 = .ok (.iadd, 1) := by decide +kernel
theorem dModel_chosen_109 : decode cModel_chosen 109 = .ok (.iaload, 1) := by decide +kernel
theorem dModel_chosen_110 : decode cModel_chosen 110 = .ok (.goto 4, 3) := by decide +kernel
theorem dModel_chosen_113 : decode cModel_chosen 113 = .ok (.iload_n 2, 1) := by decide +kernel
theorem dModel_chosen_114 : decode cModel_chosen 114 = .ok (.istore_n 2, 1) := by decide +kernel
theorem dModel_chosen_115 : decode cModel_chosen 115 = .ok (.iinc 3  1, 3) := by decide +kernel
theorem dModel_chosen_118 : decode cModel_chosen 118 = .ok (.goto (-104), 3) := by decide +kernel
theorem dModel_chosen_121 : decode cModel_chosen 121 = .ok (.iload_n 2, 1) := by decide +kernel
theorem dModel_chosen_122 : decode cModel_chosen 122 = .ok (.ireturn, 1) := by decide +kernel
set_option maxRecDepth 100000 in
set_option maxHeartbeats 4000000 in
theorem m_chosen (l : Launch) (D : va_G) (cI cZ : ClassId) (qm : Nat → Nat) (n : Nat) (S : Nat) (P : Nat) (x : St) (sl : Int32) (hn1 : 1 ≤ n) (hn5 : n ≤ 5) (hS1 : 1 ≤ S) (hS4 : S ≤ 4) (hP5 : 5 ≤ P) (hP64 : P ≤ 64) (hIn : Inv n S x) : MI l D [(cI, .int), (cZ, .boolean)] yModel_chosen wsModel_chosen ({ frames := 1, cells := 0, slots := 0, locals := 21 }) [.ref (qm 0), .int sl] (wM qm cI cZ n S P x) (fun r w => r = aChosen n S x sl ∧ w = (wM qm cI cZ n S P x)) := by
  intro sz
  refine Met.ofW (cc := cModel_chosen) (maxL := 6) (ret := (Option.some .int)) (by decide) rfl ?_
  intro p e s m args below meth c s₁ B hml hv
  obtain ⟨rfl, hsz, hP, hK, hD0, hZ⟩ := hv
  have hx := B.exec
  have hb := B.bytes
  have hr := B.returns
  have hts := atoms_spec (ws := wsModel_chosen) B.pre
  have hown : s.vm.findClass RModel = some m.cls := findClass_of_methodNamed B.named
  have hlocks := B.notSynchronized
  subst hsz
  have hD := hD0.self (sz := s.heap.size)
  generalize hAe : va_A (wM qm cI cZ n S P x) s.heap.size = A at hD ⊢
  have hA : ∀ q : Nat, s.heap.size ≤ q → A q := fun q h => by rw [← hAe]; exact Or.inr h
  have hS : va_S A s.heap s.heap [] := va_S.rf
  have hP : va_P D vwCl (wM qm cI cZ n S P x) s.heap := hP
  have hl := lv_entry ([.ref (qm 0), .int sl]) (n := 6) (Nat.le_of_ble_eq_true rfl)
  rw [lg_entry_eq]
  generalize (lg_sl ([.ref (qm 0), .int sl]) ++ List.replicate (6 - (lg_sl ([.ref (qm 0), .int sl])).length) Slot.unset).toArray = ls at hl ⊢
  have hl : lv_has ls 6 [(0, .ref (qm 0)), (1, .int sl)] := hl
  refine lv_aload_n hx hb dModel_chosen_0 rfl (lv_at hl 0 rfl) ?_
  refine lv_iload_n hx hb dModel_chosen_1 rfl (lv_at hl 1 rfl) ?_
  have hPc := hP.sub (ws' := (wM qm cI cZ n S P x)) [0, 1, 2, 3, 4, 5, 6, 7, 8, 9, 10, 11, 12, 13, 14, 15, 16, 17, 18, 19, 20] rfl
  have hDc := hD.sub (ws' := (wM qm cI cZ n S P x)) [0, 1, 2, 3, 4, 5, 6, 7, 8, 9, 10, 11, 12, 13, 14, 15, 16, 17, 18, 19, 20] (by decide) rfl
  refine kx_i (va_runV (As := [.int sl]) (rest := []) ⟨hx, hb, hml, hown, hts⟩ ((m_isSlot l D cI cZ qm n S P x sl (hn1) (hn5) (hS1) (hS4) (hP5) (hP64)) s.heap.size) (cwV 1 hts (gV wd490 wd492 sl_Model_isSlot wd7 wd493) rfl rfl rfl (by decide +kernel) ⟨Nat.le_of_ble_eq_true rfl, Nat.le_of_ble_eq_true rfl⟩) ⟨fb_PW, va_recv (q0 := 0) (ci := 5) hK hPc rfl rfl, pre_PW hK hPc hDc hZ⟩ rfl rfl hl.1 rfl (lv_room (Nat.le_of_ble_eq_true rfl)) dModel_chosen_2 ⟨Nat.zero_le _, Nat.zero_le _⟩) hP hD hS hA [0, 1, 2, 3, 4, 5, 6, 7, 8, 9, 10, 11, 12, 13, 14, 15, 16, 17, 18, 19, 20] [] rfl rfl (by decide) (by decide) (fun r w1 H locs hw hP hD hS => ?_)
  rcases hw with ⟨rfl, h2, rfl⟩ | ⟨rfl, h2, rfl⟩
  · have hP : va_P D vwCl (wM qm cI cZ n S P x) H := hP
    have hD : va_D A (wM qm cI cZ n S P x) := hD
    obtain ⟨t, ht, rfl⟩ := okN_of (show S < 2 ^ 31 by omega) h2
    refine lv_if_ne (tgt := 10) hx hb dModel_chosen_5 (by decide) (fun _ => ?_) (fun h9 => absurd h9 (by decide))
    refine lv_iconst (v := nI 0) hx hb dModel_chosen_10 (by decide) ?_
    refine lv_istore_n hx hb dModel_chosen_11 rfl hl (by decide) rfl (fun ls hl => ?_)
    have hl : lv_has ls 6 [(2, .int (nI 0)), (0, .ref (qm 0)), (1, .int (nI t))] := hl
    refine lv_iconst (v := nI 0) hx hb dModel_chosen_12 (by decide) ?_
    refine lv_istore_n hx hb dModel_chosen_13 rfl hl (by decide) rfl (fun ls hl => ?_)
    have hl : lv_has ls 6 [(3, .int (nI 0)), (2, .int (nI 0)), (0, .ref (qm 0)), (1, .int (nI t))] := hl
    have loop14 : ∀ (d14 i : Nat) (ls : Array Slot) (H : Heap) (locs : List Loc), i + d14 = n → lv_has ls 6 [(3, .int (nI i)), (2, .int (fnd n (fun a => x.1 9 a t) (fun a => x.1 10 a t) i)), (0, .ref (qm 0)), (1, .int (nI t))] → va_P D vwCl (wM qm cI cZ n S P x) H → va_D A (wM qm cI cZ n S P x) → va_S A s.heap H locs → W p l e (headSpec wsModel_chosen { frames := 1, cells := 0, slots := 0, locals := 21 }).room s m [.ref (qm 0), .int (nI t)].toArray below meth c H locs 0 0 (MQ below (va_Qi (fun r w => r = aChosen n S x (nI t) ∧ w = (wM qm cI cZ n S P x)) (QW D [(cI, .int), (cZ, .boolean)] A) A) [.ref (qm 0), .int (nI t)].toArray s 0 0 A) (F0 m 14 ls []) := by
      intro d14
      induction d14 with
      | zero =>
        intro i ls H locs hid14  hl hP hD hS
        refine lv_iload_n hx hb dModel_chosen_14 rfl (lv_at hl 0 rfl) ?_
        refine lv_aload_n hx hb dModel_chosen_15 rfl (lv_at hl 2 rfl) ?_
        refine va_get (D := D) (ci := 5) (v := .int (nI n)) (C := RModel) (T := TModel) (N := 25) hx hb hts (fun w h => mc (uModel_in w h)) hown hK hP 0 rfl rfl 0 (by decide) (hts _ (mc wd405)) (fun _ h9 => h9) rfl dModel_chosen_16 ?_
        refine lv_icmp_ge (tgt := 121) hx hb dModel_chosen_19 (by decide) (fun _ => ?_) (fun h9 => absurd (nI_le (by omega) (by omega)) h9)
        refine lv_iload_n hx hb dModel_chosen_121 rfl (lv_at hl 1 rfl) ?_
        have hin14 : n = i := by omega
        subst hin14
        rw [cho_fnd (by omega) hIn]
        exact W.iret (v := cho n (fun a => x.1 9 a t) (fun a => x.1 10 a t) n 0) hx hb hr (fun t9 ht9 hW9 => ⟨⟨cho n (fun a => x.1 9 a t) (fun a => x.1 10 a t) n 0, (wM qm cI cZ n S P x), rfl, ⟨by unfold aChosen; rw [if_pos h2, ix_nI ht (by omega)], rfl⟩, by rw [ht9]; exact hP, va_K.moved hW9.alike hK, hD⟩, hS.F ht9⟩) hS.2.2 dModel_chosen_122
      | succ d14 ih14 =>
        intro i ls H locs hid14  hl hP hD hS
        refine lv_iload_n hx hb dModel_chosen_14 rfl (lv_at hl 0 rfl) ?_
        refine lv_aload_n hx hb dModel_chosen_15 rfl (lv_at hl 2 rfl) ?_
        refine va_get (D := D) (ci := 5) (v := .int (nI n)) (C := RModel) (T := TModel) (N := 25) hx hb hts (fun w h => mc (uModel_in w h)) hown hK hP 0 rfl rfl 0 (by decide) (hts _ (mc wd405)) (fun _ h9 => h9) rfl dModel_chosen_16 ?_
        refine lv_icmp_ge (tgt := 121) hx hb dModel_chosen_19 (by decide) (fun h9 => absurd h9 (nI_ge (by omega) (by omega))) (fun _ => ?_)
        refine lv_iconst (v := nI 0) hx hb dModel_chosen_22 (by decide) ?_
        refine lv_istore hx hb dModel_chosen_23 hl (by decide) rfl (fun ls hl => ?_)
        have hl : lv_has ls 6 [(4, .int (nI 0)), (3, .int (nI i)), (2, .int (fnd n (fun a => x.1 9 a t) (fun a => x.1 10 a t) i)), (0, .ref (qm 0)), (1, .int (nI t))] := hl
        refine lv_iconst (v := nI 0) hx hb dModel_chosen_25 (by decide) ?_
        refine lv_istore hx hb dModel_chosen_26 hl (by decide) rfl (fun ls hl => ?_)
        have hl : lv_has ls 6 [(5, .int (nI 0)), (4, .int (nI 0)), (3, .int (nI i)), (2, .int (fnd n (fun a => x.1 9 a t) (fun a => x.1 10 a t) i)), (0, .ref (qm 0)), (1, .int (nI t))] := hl
        have loop28 : ∀ (d28 k : Nat) (ls : Array Slot) (H : Heap) (locs : List Loc), k + d28 = n → lv_has ls 6 [(5, .int (nI k)), (4, .int (nI (cntE (fun a => x.1 9 a t) (x.1 9 i t) k))), (3, .int (nI i)), (2, .int (fnd n (fun a => x.1 9 a t) (fun a => x.1 10 a t) i)), (0, .ref (qm 0)), (1, .int (nI t))] → va_P D vwCl (wM qm cI cZ n S P x) H → va_D A (wM qm cI cZ n S P x) → va_S A s.heap H locs → W p l e (headSpec wsModel_chosen { frames := 1, cells := 0, slots := 0, locals := 21 }).room s m [.ref (qm 0), .int (nI t)].toArray below meth c H locs 0 0 (MQ below (va_Qi (fun r w => r = aChosen n S x (nI t) ∧ w = (wM qm cI cZ n S P x)) (QW D [(cI, .int), (cZ, .boolean)] A) A) [.ref (qm 0), .int (nI t)].toArray s 0 0 A) (F0 m 28 ls []) := by
          intro d28
          induction d28 with
          | zero =>
            intro k ls H locs hid28  hl hP hD hS
            refine lv_iload hx hb dModel_chosen_28 (lv_at hl 0 rfl) ?_
            refine lv_aload_n hx hb dModel_chosen_30 rfl (lv_at hl 4 rfl) ?_
            refine va_get (D := D) (ci := 5) (v := .int (nI n)) (C := RModel) (T := TModel) (N := 25) hx hb hts (fun w h => mc (uModel_in w h)) hown hK hP 0 rfl rfl 0 (by decide) (hts _ (mc wd405)) (fun _ h9 => h9) rfl dModel_chosen_31 ?_
            refine lv_icmp_ge (tgt := 78) hx hb dModel_chosen_34 (by decide) (fun _ => ?_) (fun h9 => absurd (nI_le (by omega) (by omega)) h9)
            have hin28 : n = k := by omega
            subst hin28
            refine lv_aload_n hx hb dModel_chosen_78 rfl (lv_at hl 4 rfl) ?_
            refine lv_iload hx hb dModel_chosen_79 (lv_at hl 1 rfl) ?_
            have hPc := hP.sub (ws' := (wM qm cI cZ n S P x)) [0, 1, 2, 3, 4, 5, 6, 7, 8, 9, 10, 11, 12, 13, 14, 15, 16, 17, 18, 19, 20] rfl
            have hDc := hD.sub (ws' := (wM qm cI cZ n S P x)) [0, 1, 2, 3, 4, 5, 6, 7, 8, 9, 10, 11, 12, 13, 14, 15, 16, 17, 18, 19, 20] (by decide) rfl
            refine kx_i (va_runV (As := [.int (nI (cntE (fun a => x.1 9 a t) (x.1 9 i t) n))]) (rest := []) ⟨hx, hb, hml, hown, hts⟩ ((m_isMajority l D cI cZ qm n S P x (cntE (fun a => x.1 9 a t) (x.1 9 i t) n) (hn1) (hn5) (hS1) (hS4) (hP5) (hP64) (Nat.le_trans (cntE_le _ _ _) hn5)) H.size) (cwV 1 hts (gV wd529 wd531 sl_Model_isMajority wd7 wd532) rfl rfl rfl (by decide +kernel) ⟨Nat.le_of_ble_eq_true rfl, Nat.le_of_ble_eq_true rfl⟩) ⟨fb_PW, va_recv (q0 := 0) (ci := 5) hK hPc rfl rfl, pre_PW hK hPc hDc hZ⟩ rfl rfl hl.1 rfl (lv_room (Nat.le_of_ble_eq_true rfl)) dModel_chosen_81 ⟨Nat.zero_le _, Nat.zero_le _⟩) hP hD hS hA [0, 1, 2, 3, 4, 5, 6, 7, 8, 9, 10, 11, 12, 13, 14, 15, 16, 17, 18, 19, 20] [] rfl rfl (by decide) (by decide) (fun r w1 H locs hw hP hD hS => ?_)
            rcases hw with ⟨rfl, h81, rfl⟩ | ⟨rfl, h81, rfl⟩
            · have hP : va_P D vwCl (wM qm cI cZ n S P x) H := hP
              have hD : va_D A (wM qm cI cZ n S P x) := hD
              refine lv_if_eq (tgt := 113) hx hb dModel_chosen_84 (by decide) (fun h9 => absurd h9 (by decide)) (fun _ => ?_)
              refine lv_aload_n hx hb dModel_chosen_87 rfl (lv_at hl 4 rfl) ?_
              refine va_get (D := D) (ci := 5) (v := .ref (qm 16)) (C := RModel) (T := TModel) (N := 25) hx hb hts (fun w h => mc (uModel_in w h)) hown hK hP 0 rfl rfl 18 (by decide) (hts _ (mc wd423)) (fun _ h9 => h9) rfl dModel_chosen_88 ?_
              refine lv_iconst (v := nI 4) hx hb dModel_chosen_91 (by decide) ?_
              refine lv_iload_n hx hb dModel_chosen_92 rfl (lv_at hl 2 rfl) ?_
              refine lv_imul hx hb dModel_chosen_93 ?_
              refine lv_topi (nm_r ((pk_mul _ _).trans (congrArg nI (Nat.mul_comm _ _))) ?_)
              refine lv_iload_n hx hb dModel_chosen_94 rfl (lv_at hl 5 rfl) ?_
              refine lv_iadd hx hb dModel_chosen_95 ?_
              refine lv_topi (nm_r (nI_add _ _) ?_)
              refine ka_ld (v := x.1 9 i t) hx hb hK hP 16 0 rfl rfl (by omega) (by omega) (sq_at (by omega)) dModel_chosen_96 ?_
              refine lv_if_lt (tgt := 113) hx hb dModel_chosen_97 (by decide) (fun c97 => ?_) (fun c97 => ?_)
              · refine lv_iload_n hx hb dModel_chosen_113 rfl (lv_at hl 3 rfl) ?_
                refine lv_topi (nm_r (fnd_f (f := (fun a => x.1 9 a t)) (g := (fun a => x.1 10 a t)) (fun h => absurd h.2 (Int32.not_le.mpr c97))) ?_)
                refine lv_istore_n hx hb dModel_chosen_114 rfl hl (by decide) rfl (fun ls hl => ?_)
                have hl : lv_has ls 6 [(2, .int (fnd n (fun a => x.1 9 a t) (fun a => x.1 10 a t) (i + 1))), (5, .int (nI n)), (4, .int (nI (cntE (fun a => x.1 9 a t) (x.1 9 i t) n))), (3, .int (nI i)), (0, .ref (qm 0)), (1, .int (nI t))] := hl
                refine lv_iinc (k := 3) (v := nI (i + 1)) hx hb dModel_chosen_115 hl rfl ((nI_succ _).symm) (by decide) rfl (fun ls hl => ?_)
                have hl : lv_has ls 6 [(3, .int (nI (i + 1))), (2, .int (fnd n (fun a => x.1 9 a t) (fun a => x.1 10 a t) (i + 1))), (5, .int (nI n)), (4, .int (nI (cntE (fun a => x.1 9 a t) (x.1 9 i t) n))), (0, .ref (qm 0)), (1, .int (nI t))] := hl
                refine lv_goto (tgt := 14) hx hb dModel_chosen_118 (by decide) ?_
                exact ih14 (i + 1) ls H locs (by omega) (lv_sub hl [0, 1, 4, 5] rfl) hP hD hS
              · refine lv_aload_n hx hb dModel_chosen_100 rfl (lv_at hl 4 rfl) ?_
                refine va_get (D := D) (ci := 5) (v := .ref (qm 17)) (C := RModel) (T := TModel) (N := 25) hx hb hts (fun w h => mc (uModel_in w h)) hown hK hP 0 rfl rfl 19 (by decide) (hts _ (mc wd424)) (fun _ h9 => h9) rfl dModel_chosen_101 ?_
                refine lv_iconst (v := nI 4) hx hb dModel_chosen_104 (by decide) ?_
                refine lv_iload_n hx hb dModel_chosen_105 rfl (lv_at hl 2 rfl) ?_
                refine lv_imul hx hb dModel_chosen_106 ?_
                refine lv_topi (nm_r ((pk_mul _ _).trans (congrArg nI (Nat.mul_comm _ _))) ?_)
                refine lv_iload_n hx hb dModel_chosen_107 rfl (lv_at hl 5 rfl) ?_
                refine lv_iadd hx hb dModel_chosen_108 ?_
                refine lv_topi (nm_r (nI_add _ _) ?_)
                refine ka_ld (v := x.1 10 i t) hx hb hK hP 17 0 rfl rfl (by omega) (by omega) (sq_at (by omega)) dModel_chosen_109 ?_
                refine lv_goto (tgt := 114) hx hb dModel_chosen_110 (by decide) ?_
                refine lv_topi (nm_r (fnd_t (f := (fun a => x.1 9 a t)) (g := (fun a => x.1 10 a t)) ⟨h81, Int32.not_lt.mp c97⟩) ?_)
                refine lv_istore_n hx hb dModel_chosen_114 rfl hl (by decide) rfl (fun ls hl => ?_)
                have hl : lv_has ls 6 [(2, .int (fnd n (fun a => x.1 9 a t) (fun a => x.1 10 a t) (i + 1))), (5, .int (nI n)), (4, .int (nI (cntE (fun a => x.1 9 a t) (x.1 9 i t) n))), (3, .int (nI i)), (0, .ref (qm 0)), (1, .int (nI t))] := hl
                refine lv_iinc (k := 3) (v := nI (i + 1)) hx hb dModel_chosen_115 hl rfl ((nI_succ _).symm) (by decide) rfl (fun ls hl => ?_)
                have hl : lv_has ls 6 [(3, .int (nI (i + 1))), (2, .int (fnd n (fun a => x.1 9 a t) (fun a => x.1 10 a t) (i + 1))), (5, .int (nI n)), (4, .int (nI (cntE (fun a => x.1 9 a t) (x.1 9 i t) n))), (0, .ref (qm 0)), (1, .int (nI t))] := hl
                refine lv_goto (tgt := 14) hx hb dModel_chosen_118 (by decide) ?_
                exact ih14 (i + 1) ls H locs (by omega) (lv_sub hl [0, 1, 4, 5] rfl) hP hD hS
            · have hP : va_P D vwCl (wM qm cI cZ n S P x) H := hP
              have hD : va_D A (wM qm cI cZ n S P x) := hD
              refine lv_if_eq (tgt := 113) hx hb dModel_chosen_84 (by decide) (fun _ => ?_) (fun h9 => absurd (by decide) h9)
              refine lv_iload_n hx hb dModel_chosen_113 rfl (lv_at hl 3 rfl) ?_
              refine lv_topi (nm_r (fnd_f (f := (fun a => x.1 9 a t)) (g := (fun a => x.1 10 a t)) (fun h => h81 h.1)) ?_)
              refine lv_istore_n hx hb dModel_chosen_114 rfl hl (by decide) rfl (fun ls hl => ?_)
              have hl : lv_has ls 6 [(2, .int (fnd n (fun a => x.1 9 a t) (fun a => x.1 10 a t) (i + 1))), (5, .int (nI n)), (4, .int (nI (cntE (fun a => x.1 9 a t) (x.1 9 i t) n))), (3, .int (nI i)), (0, .ref (qm 0)), (1, .int (nI t))] := hl
              refine lv_iinc (k := 3) (v := nI (i + 1)) hx hb dModel_chosen_115 hl rfl ((nI_succ _).symm) (by decide) rfl (fun ls hl => ?_)
              have hl : lv_has ls 6 [(3, .int (nI (i + 1))), (2, .int (fnd n (fun a => x.1 9 a t) (fun a => x.1 10 a t) (i + 1))), (5, .int (nI n)), (4, .int (nI (cntE (fun a => x.1 9 a t) (x.1 9 i t) n))), (0, .ref (qm 0)), (1, .int (nI t))] := hl
              refine lv_goto (tgt := 14) hx hb dModel_chosen_118 (by decide) ?_
              exact ih14 (i + 1) ls H locs (by omega) (lv_sub hl [0, 1, 4, 5] rfl) hP hD hS
          | succ d28 ih28 =>
            intro k ls H locs hid28  hl hP hD hS
            refine lv_iload hx hb dModel_chosen_28 (lv_at hl 0 rfl) ?_
            refine lv_aload_n hx hb dModel_chosen_30 rfl (lv_at hl 4 rfl) ?_
            refine va_get (D := D) (ci := 5) (v := .int (nI n)) (C := RModel) (T := TModel) (N := 25) hx hb hts (fun w h => mc (uModel_in w h)) hown hK hP 0 rfl rfl 0 (by decide) (hts _ (mc wd405)) (fun _ h9 => h9) rfl dModel_chosen_31 ?_
            refine lv_icmp_ge (tgt := 78) hx hb dModel_chosen_34 (by decide) (fun h9 => absurd h9 (nI_ge (by omega) (by omega))) (fun _ => ?_)
            refine lv_aload_n hx hb dModel_chosen_37 rfl (lv_at hl 4 rfl) ?_
            refine va_get (D := D) (ci := 5) (v := .ref (qm 16)) (C := RModel) (T := TModel) (N := 25) hx hb hts (fun w h => mc (uModel_in w h)) hown hK hP 0 rfl rfl 18 (by decide) (hts _ (mc wd423)) (fun _ h9 => h9) rfl dModel_chosen_38 ?_
            refine lv_iconst (v := nI 4) hx hb dModel_chosen_41 (by decide) ?_
            refine lv_iload hx hb dModel_chosen_42 (lv_at hl 0 rfl) ?_
            refine lv_imul hx hb dModel_chosen_44 ?_
            refine lv_topi (nm_r ((pk_mul _ _).trans (congrArg nI (Nat.mul_comm _ _))) ?_)
            refine lv_iload_n hx hb dModel_chosen_45 rfl (lv_at hl 5 rfl) ?_
            refine lv_iadd hx hb dModel_chosen_46 ?_
            refine lv_topi (nm_r (nI_add _ _) ?_)
            refine ka_ld (v := x.1 9 k t) hx hb hK hP 16 0 rfl rfl (by omega) (by omega) (sq_at (by omega)) dModel_chosen_47 ?_
            refine lv_aload_n hx hb dModel_chosen_48 rfl (lv_at hl 4 rfl) ?_
            refine va_get (D := D) (ci := 5) (v := .ref (qm 16)) (C := RModel) (T := TModel) (N := 25) hx hb hts (fun w h => mc (uModel_in w h)) hown hK hP 0 rfl rfl 18 (by decide) (hts _ (mc wd423)) (fun _ h9 => h9) rfl dModel_chosen_49 ?_
            refine lv_iconst (v := nI 4) hx hb dModel_chosen_52 (by decide) ?_
            refine lv_iload_n hx hb dModel_chosen_53 rfl (lv_at hl 2 rfl) ?_
            refine lv_imul hx hb dModel_chosen_54 ?_
            refine lv_topi (nm_r ((pk_mul _ _).trans (congrArg nI (Nat.mul_comm _ _))) ?_)
            refine lv_iload_n hx hb dModel_chosen_55 rfl (lv_at hl 5 rfl) ?_
            refine lv_iadd hx hb dModel_chosen_56 ?_
            refine lv_topi (nm_r (nI_add _ _) ?_)
            refine ka_ld (v := x.1 9 i t) hx hb hK hP 16 0 rfl rfl (by omega) (by omega) (sq_at (by omega)) dModel_chosen_57 ?_
            refine lv_icmp_ne (tgt := 68) hx hb dModel_chosen_58 (by decide) (fun c58 => ?_) (fun c58 => ?_)
            · refine lv_iload hx hb dModel_chosen_68 (lv_at hl 1 rfl) ?_
              refine lv_topi (nm_r (ce_t (f := (fun a => x.1 9 a t)) c58) ?_)
              refine lv_istore hx hb dModel_chosen_70 hl (by decide) rfl (fun ls hl => ?_)
              have hl : lv_has ls 6 [(4, .int (nI (cntE (fun a => x.1 9 a t) (x.1 9 i t) (k + 1)))), (5, .int (nI k)), (3, .int (nI i)), (2, .int (fnd n (fun a => x.1 9 a t) (fun a => x.1 10 a t) i)), (0, .ref (qm 0)), (1, .int (nI t))] := hl
              refine lv_iinc (k := 1) (v := nI (k + 1)) hx hb dModel_chosen_72 hl rfl ((nI_succ _).symm) (by decide) rfl (fun ls hl => ?_)
              have hl : lv_has ls 6 [(5, .int (nI (k + 1))), (4, .int (nI (cntE (fun a => x.1 9 a t) (x.1 9 i t) (k + 1)))), (3, .int (nI i)), (2, .int (fnd n (fun a => x.1 9 a t) (fun a => x.1 10 a t) i)), (0, .ref (qm 0)), (1, .int (nI t))] := hl
              refine lv_goto (tgt := 28) hx hb dModel_chosen_75 (by decide) ?_
              exact ih28 (k + 1) ls H locs (by omega) hl hP hD hS
            · refine lv_iload hx hb dModel_chosen_61 (lv_at hl 1 rfl) ?_
              refine lv_iconst (v := nI 1) hx hb dModel_chosen_63 (by decide) ?_
              refine lv_iadd hx hb dModel_chosen_64 ?_
              refine lv_topi (nm_r (nI_add _ _) ?_)
              refine lv_goto (tgt := 70) hx hb dModel_chosen_65 (by decide) ?_
              refine lv_topi (nm_r (ce_f (f := (fun a => x.1 9 a t)) c58) ?_)
              refine lv_istore hx hb dModel_chosen_70 hl (by decide) rfl (fun ls hl => ?_)
              have hl : lv_has ls 6 [(4, .int (nI (cntE (fun a => x.1 9 a t) (x.1 9 i t) (k + 1)))), (5, .int (nI k)), (3, .int (nI i)), (2, .int (fnd n (fun a => x.1 9 a t) (fun a => x.1 10 a t) i)), (0, .ref (qm 0)), (1, .int (nI t))] := hl
              refine lv_iinc (k := 1) (v := nI (k + 1)) hx hb dModel_chosen_72 hl rfl ((nI_succ _).symm) (by decide) rfl (fun ls hl => ?_)
              have hl : lv_has ls 6 [(5, .int (nI (k + 1))), (4, .int (nI (cntE (fun a => x.1 9 a t) (x.1 9 i t) (k + 1)))), (3, .int (nI i)), (2, .int (fnd n (fun a => x.1 9 a t) (fun a => x.1 10 a t) i)), (0, .ref (qm 0)), (1, .int (nI t))] := hl
              refine lv_goto (tgt := 28) hx hb dModel_chosen_75 (by decide) ?_
              exact ih28 (k + 1) ls H locs (by omega) hl hP hD hS
        exact loop28 n 0 ls H locs (by omega) hl hP hD hS
    exact loop14 n 0 ls H locs (by omega) hl hP hD hS
  · have hP : va_P D vwCl (wM qm cI cZ n S P x) H := hP
    have hD : va_D A (wM qm cI cZ n S P x) := hD
    refine lv_if_ne (tgt := 10) hx hb dModel_chosen_5 (by decide) (fun h9 => absurd (by decide) h9) (fun _ => ?_)
    refine lv_iconst (v := (-1)) hx hb dModel_chosen_8 (by decide) ?_
    exact W.iret (v := (-1)) hx hb hr (fun t9 ht9 hW9 => ⟨⟨(-1), (wM qm cI cZ n S P x), rfl, ⟨by unfold aChosen; rw [if_neg h2], rfl⟩, by rw [ht9]; exact hP, va_K.moved hW9.alike hK, hD⟩, hS.F ht9⟩) hS.2.2 dModel_chosen_9
theorem dModel_applied_0 : decode cModel_applied 0 = .ok (.lconst 0, 1) := by decide +kernel
theorem dModel_applied_1 : decode cModel_applied 1 = .ok (.lstore_n 2, 1) := by decide +kernel
theorem dModel_applied_2 : decode cModel_applied 2 = .ok (.iconst 0, 1) := by decide +kernel
theorem dModel_applied_3 : decode cModel_applied 3 = .ok (.istore 4, 2) := by decide +kernel
theorem dModel_applied_5 : decode cModel_applied 5 = .ok (.iload 4, 2) := by decide +kernel
theorem dModel_applied_7 : decode cModel_applied 7 = .ok (.aload_n 0, 1) := by decide +kernel
theorem dModel_applied_8 : decode cModel_applied 8 = .ok (.iload_n 1, 1) := by decide +kernel
theorem dModel_applied_9 : decode cModel_applied 9 = .ok (.invokevirtual 146, 3) := by decide +kernel
theorem dModel_applied_12 : decode cModel_applied 12 = .ok (.if_icmp .ge 48, 3) := by decide +kernel
theorem dModel_applied_15 : decode cModel_applied 15 = .ok (.aload_n 0, 1) := by decide +kernel
theorem dModel_applied_16 : decode cModel_applied 16 = .ok (.getfield 68, 3) := by decide +kernel
theorem dModel_applied_19 : decode cModel_applied 19 = .ok (.iconst 4, 1) := by decide +kernel
theorem dModel_applied_20 : decode cModel_applied 20 = .ok (.iload_n 1, 1) := by decide +kernel
theorem dModel_applied_21 : decode cModel_applied 21 = .ok (.imul, 1) := by decide +kernel
theorem dModel_applied_22 : decode cModel_applied 22 = .ok (.iload 4, 2) := by decide +kernel
theorem dModel_applied_24 : decode cModel_applied 24 = .ok (.iadd, 1) := by decide +kernel
theorem dModel_applied_25 : decode cModel_applied 25 = .ok (.iaload, 1) := by decide +kernel
theorem dModel_applied_26 : decode cModel_applied 26 = .ok (.i2l, 1) := by decide +kernel
theorem dModel_applied_27 : decode cModel_applied 27 = .ok (.lstore 5, 2) := by decide +kernel
theorem dModel_applied_29 : decode cModel_applied 29 = .ok (.lload 5, 2) := by decide +kernel
theorem dModel_applied_31 : decode cModel_applied 31 = .ok (.ldc2_w 149, 3) := by decide +kernel
theorem dModel_applied_34 : decode cModel_applied 34 = .ok (.lrem, 1) := by decide +kernel
theorem dModel_applied_35 : decode cModel_applied 35 = .ok (.lconst 0, 1) := by decide +kernel
theorem dModel_applied_36 : decode cModel_applied 36 = .ok (.lcmp, 1) := by decide +kernel
theorem dModel_applied_37 : decode cModel_applied 37 = .ok (.ifCond .ne 10, 3) := by decide +kernel
theorem dModel_applied_40 : decode cModel_applied 40 = .ok (.lload_n 2, 1) := by decide +kernel
theorem dModel_applied_41 : decode cModel_applied 41 = .ok (.lload 5, 2) := by decide +kernel
theorem dModel_applied_43 : decode cModel_applied 43 = .ok (.ladd, 1) := by decide +kernel
theorem dModel_applied_44 : decode cModel_applied 44 = .ok (.goto 9, 3) := by decide +kernel
theorem dModel_applied_47 : decode cModel_applied 47 = .ok (.lload_n 2, 1) := by decide +kernel
theorem dModel_applied_48 : decode cModel_applied 48 = .ok (.lload 5, 2) := by decide +kernel
theorem dModel_applied_50 : decode cModel_applied 50 = .ok (.lmul, 1) := by decide +kernel
theorem dModel_applied_51 : decode cModel_applied 51 = .ok (.lconst 1, 1) := by decide +kernel
theorem dModel_applied_52 : decode cModel_applied 52 = .ok (.ladd, 1) := by decide +kernel
theorem dModel_applied_53 : decode cModel_applied 53 = .ok (.lstore_n 2, 1) := by decide +kernel
theorem dModel_applied_54 : decode cModel_applied 54 = .ok (.iinc 4  1, 3) := by decide +kernel
theorem dModel_applied_57 : decode cModel_applied 57 = .ok (.goto (-52), 3) := by decide +kernel
theorem dModel_applied_60 : decode cModel_applied 60 = .ok (.lload_n 2, 1) := by decide +kernel
theorem dModel_applied_61 : decode cModel_applied 61 = .ok (.lreturn, 1) := by decide +kernel
set_option maxRecDepth 100000 in
set_option maxHeartbeats 4000000 in
theorem m_applied (l : Launch) (D : va_G) (cI cZ : ClassId) (qm : Nat → Nat) (n : Nat) (S : Nat) (P : Nat) (x : St) (nd : Int32) (hn1 : 1 ≤ n) (hn5 : n ≤ 5) (hS1 : 1 ≤ S) (hS4 : S ≤ 4) (hP5 : 5 ≤ P) (hP64 : P ≤ 64) (hIv : Ival x) : ML l D [(cI, .int), (cZ, .boolean)] yModel_applied wsModel_applied ({ frames := 2, cells := 0, slots := 0, locals := 43 }) [.ref (qm 0), .int nd] (wM qm cI cZ n S P x) (fun r w => r = aApp n S x nd ∧ w = (wM qm cI cZ n S P x)) := by
  intro sz
  refine Met.ofW (cc := cModel_applied) (maxL := 7) (ret := (Option.some .long)) (by decide) rfl ?_
  intro p e s m args below meth c s₁ B hml hv
  obtain ⟨rfl, hsz, hP, hK, hD0, hZ⟩ := hv
  have hx := B.exec
  have hb := B.bytes
  have hr := B.returns
  have hts := atoms_spec (ws := wsModel_applied) B.pre
  have hown : s.vm.findClass RModel = some m.cls := findClass_of_methodNamed B.named
  have hlocks := B.notSynchronized
  subst hsz
  have hD := hD0.self (sz := s.heap.size)
  generalize hAe : va_A (wM qm cI cZ n S P x) s.heap.size = A at hD ⊢
  have hA : ∀ q : Nat, s.heap.size ≤ q → A q := fun q h => by rw [← hAe]; exact Or.inr h
  have hS : va_S A s.heap s.heap [] := va_S.rf
  have hP : va_P D vwCl (wM qm cI cZ n S P x) s.heap := hP
  have hl := lv_entry ([.ref (qm 0), .int nd]) (n := 7) (Nat.le_of_ble_eq_true rfl)
  rw [lg_entry_eq]
  generalize (lg_sl ([.ref (qm 0), .int nd]) ++ List.replicate (7 - (lg_sl ([.ref (qm 0), .int nd])).length) Slot.unset).toArray = ls at hl ⊢
  have hl : lv_has ls 7 [(0, .ref (qm 0)), (1, .int nd)] := hl
  refine lv_lconst (v := 0) hx hb dModel_applied_0 (by decide) ?_
  refine lv_lstore_n hx hb dModel_applied_1 rfl hl (by decide) rfl (fun ls hl => ?_)
  have hl : lv_has ls 7 [(2, .long 0), (0, .ref (qm 0)), (1, .int nd)] := hl
  refine lv_iconst (v := nI 0) hx hb dModel_applied_2 (by decide) ?_
  refine lv_istore hx hb dModel_applied_3 hl (by decide) rfl (fun ls hl => ?_)
  have hl : lv_has ls 7 [(4, .int (nI 0)), (2, .long 0), (0, .ref (qm 0)), (1, .int nd)] := hl
  by_cases hok : okN nd n
  · obtain ⟨a, ha, rfl⟩ := okN_of (show n < 2 ^ 31 by omega) hok
    have hPF : lst (x.1 11 a) S 0 ≤ S := by have h7 := (lst_spec (x.1 11 a) S 0).2.1; omega
    have loop5 : ∀ (d5 i : Nat) (ls : Array Slot) (H : Heap) (locs : List Loc), i + d5 = lst (x.1 11 a) S 0 → lv_has ls 7 [(4, .int (nI i)), (2, .long (appl (x.1 11 a) i)), (0, .ref (qm 0)), (1, .int (nI a))] → va_P D vwCl (wM qm cI cZ n S P x) H → va_D A (wM qm cI cZ n S P x) → va_S A s.heap H locs → W p l e (headSpec wsModel_applied { frames := 2, cells := 0, slots := 0, locals := 43 }).room s m [.ref (qm 0), .int (nI a)].toArray below meth c H locs 0 0 (MQ below (va_Ql (fun r w => r = aApp n S x (nI a) ∧ w = (wM qm cI cZ n S P x)) (QW D [(cI, .int), (cZ, .boolean)] A) A) [.ref (qm 0), .int (nI a)].toArray s 0 0 A) (F0 m 5 ls []) := by
      intro d5
      induction d5 with
      | zero =>
        intro i ls H locs hid5  hl hP hD hS
        refine lv_iload hx hb dModel_applied_5 (lv_at hl 0 rfl) ?_
        refine lv_aload_n hx hb dModel_applied_7 rfl (lv_at hl 2 rfl) ?_
        refine lv_iload_n hx hb dModel_applied_8 rfl (lv_at hl 3 rfl) ?_
        have hPc := hP.sub (ws' := (wM qm cI cZ n S P x)) [0, 1, 2, 3, 4, 5, 6, 7, 8, 9, 10, 11, 12, 13, 14, 15, 16, 17, 18, 19, 20] rfl
        have hDc := hD.sub (ws' := (wM qm cI cZ n S P x)) [0, 1, 2, 3, 4, 5, 6, 7, 8, 9, 10, 11, 12, 13, 14, 15, 16, 17, 18, 19, 20] (by decide) rfl
        refine kx_i (va_runV (As := [.int (nI a)]) (rest := [.int (nI i)]) ⟨hx, hb, hml, hown, hts⟩ ((m_pfx l D cI cZ qm n S P x (nI a) (hn1) (hn5) (hS1) (hS4) (hP5) (hP64) (hIv)) H.size) (cwV 1 hts (gV wd610 wd603 wd604 wd7 wd605) rfl rfl rfl (by decide +kernel) ⟨Nat.le_of_ble_eq_true rfl, Nat.le_of_ble_eq_true rfl⟩) ⟨fb_PW, va_recv (q0 := 0) (ci := 5) hK hPc rfl rfl, pre_PW hK hPc hDc hZ⟩ rfl rfl hl.1 rfl (lv_room (Nat.le_of_ble_eq_true rfl)) dModel_applied_9 ⟨Nat.zero_le _, Nat.zero_le _⟩) hP hD hS hA [0, 1, 2, 3, 4, 5, 6, 7, 8, 9, 10, 11, 12, 13, 14, 15, 16, 17, 18, 19, 20] [] rfl rfl (by decide) (by decide) (fun r w1 H locs hw hP hD hS => ?_)
        obtain ⟨rfl, rfl⟩ := hw
        have hP : va_P D vwCl (wM qm cI cZ n S P x) H := hP
        have hD : va_D A (wM qm cI cZ n S P x) := hD
        refine lv_topi (nm_r (show aPfx n S x (nI a) = nI (lst (x.1 11 a) S 0) by unfold aPfx; rw [if_pos hok, ix_nI ha (by omega)]) ?_)
        refine lv_icmp_ge (tgt := 60) hx hb dModel_applied_12 (by decide) (fun _ => ?_) (fun h9 => absurd (nI_le (by omega) (by omega)) h9)
        refine lv_lload_n hx hb dModel_applied_60 rfl (lv_at hl 1 rfl) ?_
        have hin : i = lst (x.1 11 a) S 0 := by omega
        rw [hin]
        exact W.lret (v := appl (x.1 11 a) (lst (x.1 11 a) S 0)) hx hb hr (fun t9 ht9 hW9 => ⟨⟨appl (x.1 11 a) (lst (x.1 11 a) S 0), (wM qm cI cZ n S P x), rfl, ⟨by unfold aApp; rw [if_pos hok, ix_nI ha (by omega)], rfl⟩, by rw [ht9]; exact hP, va_K.moved hW9.alike hK, hD⟩, hS.F ht9⟩) hS.2.2 dModel_applied_61
      | succ d5 ih5 =>
        intro i ls H locs hid5  hl hP hD hS
        refine lv_iload hx hb dModel_applied_5 (lv_at hl 0 rfl) ?_
        refine lv_aload_n hx hb dModel_applied_7 rfl (lv_at hl 2 rfl) ?_
        refine lv_iload_n hx hb dModel_applied_8 rfl (lv_at hl 3 rfl) ?_
        have hPc := hP.sub (ws' := (wM qm cI cZ n S P x)) [0, 1, 2, 3, 4, 5, 6, 7, 8, 9, 10, 11, 12, 13, 14, 15, 16, 17, 18, 19, 20] rfl
        have hDc := hD.sub (ws' := (wM qm cI cZ n S P x)) [0, 1, 2, 3, 4, 5, 6, 7, 8, 9, 10, 11, 12, 13, 14, 15, 16, 17, 18, 19, 20] (by decide) rfl
        refine kx_i (va_runV (As := [.int (nI a)]) (rest := [.int (nI i)]) ⟨hx, hb, hml, hown, hts⟩ ((m_pfx l D cI cZ qm n S P x (nI a) (hn1) (hn5) (hS1) (hS4) (hP5) (hP64) (hIv)) H.size) (cwV 1 hts (gV wd610 wd603 wd604 wd7 wd605) rfl rfl rfl (by decide +kernel) ⟨Nat.le_of_ble_eq_true rfl, Nat.le_of_ble_eq_true rfl⟩) ⟨fb_PW, va_recv (q0 := 0) (ci := 5) hK hPc rfl rfl, pre_PW hK hPc hDc hZ⟩ rfl rfl hl.1 rfl (lv_room (Nat.le_of_ble_eq_true rfl)) dModel_applied_9 ⟨Nat.zero_le _, Nat.zero_le _⟩) hP hD hS hA [0, 1, 2, 3, 4, 5, 6, 7, 8, 9, 10, 11, 12, 13, 14, 15, 16, 17, 18, 19, 20] [] rfl rfl (by decide) (by decide) (fun r w1 H locs hw hP hD hS => ?_)
        obtain ⟨rfl, rfl⟩ := hw
        have hP : va_P D vwCl (wM qm cI cZ n S P x) H := hP
        have hD : va_D A (wM qm cI cZ n S P x) := hD
        refine lv_topi (nm_r (show aPfx n S x (nI a) = nI (lst (x.1 11 a) S 0) by unfold aPfx; rw [if_pos hok, ix_nI ha (by omega)]) ?_)
        refine lv_icmp_ge (tgt := 60) hx hb dModel_applied_12 (by decide) (fun h9 => absurd h9 (nI_ge (by omega) (by omega))) (fun _ => ?_)
        refine lv_aload_n hx hb dModel_applied_15 rfl (lv_at hl 2 rfl) ?_
        refine va_get (D := D) (ci := 5) (v := .ref (qm 20)) (C := RModel) (T := TModel) (N := 25) hx hb hts (fun w h => mc (uModel_in w h)) hown hK hP 0 rfl rfl 22 (by decide) (hts _ (mc wd427)) (fun _ h9 => h9) rfl dModel_applied_16 ?_
        refine lv_iconst (v := nI 4) hx hb dModel_applied_19 (by decide) ?_
        refine lv_iload_n hx hb dModel_applied_20 rfl (lv_at hl 3 rfl) ?_
        refine lv_imul hx hb dModel_applied_21 ?_
        refine lv_topi (nm_r ((pk_mul _ _).trans (congrArg nI (Nat.mul_comm _ _))) ?_)
        refine lv_iload hx hb dModel_applied_22 (lv_at hl 0 rfl) ?_
        refine lv_iadd hx hb dModel_applied_24 ?_
        refine lv_topi (nm_r (nI_add _ _) ?_)
        refine ka_ld (v := x.1 11 a i) hx hb hK hP 20 0 rfl rfl (by omega) (by omega) (sq_at (by omega)) dModel_applied_25 ?_
        refine lv_i2l (v := (x.1 11 a i).toInt64) hx hb dModel_applied_26 rfl ?_
        refine lv_lstore hx hb dModel_applied_27 hl (by decide) rfl (fun ls hl => ?_)
        have hl : lv_has ls 7 [(5, .long ((x.1 11 a i).toInt64)), (4, .int (nI i)), (2, .long (appl (x.1 11 a) i)), (0, .ref (qm 0)), (1, .int (nI a))] := hl
        refine lv_lload hx hb dModel_applied_29 (lv_at hl 0 rfl) ?_
        refine lv_ldc2 (v := 2) hx hb hown (hts _ (mc wd611)) dModel_applied_31 ?_
        refine lv_lrem hx hb dModel_applied_34 (by decide) ?_
        refine lv_lconst (v := 0) hx hb dModel_applied_35 (by decide) ?_
        refine W.lcmp hx hb dModel_applied_36 ?_
        refine lv_if_ne (tgt := 47) hx hb dModel_applied_37 (by decide) (fun c37 => ?_) (fun c37 => ?_)
        · refine lv_lload_n hx hb dModel_applied_47 rfl (lv_at hl 2 rfl) ?_
          refine lv_lload hx hb dModel_applied_48 (lv_at hl 0 rfl) ?_
          refine lv_lmul hx hb dModel_applied_50 ?_
          refine lv_lconst (v := 1) hx hb dModel_applied_51 (by decide) ?_
          refine lv_ladd hx hb dModel_applied_52 ?_
          refine lv_topl (nm_r (app_f (f := x.1 11 a) (fun q9 => c37 (lgc.mpr ((app_l (hIv.2.2.2.2 a i)).mpr q9)))) ?_)
          refine lv_lstore_n hx hb dModel_applied_53 rfl hl (by decide) rfl (fun ls hl => ?_)
          have hl : lv_has ls 7 [(2, .long (appl (x.1 11 a) (i + 1))), (5, .long ((x.1 11 a i).toInt64)), (4, .int (nI i)), (0, .ref (qm 0)), (1, .int (nI a))] := hl
          refine lv_iinc (k := 2) (v := nI (i + 1)) hx hb dModel_applied_54 hl rfl ((nI_succ _).symm) (by decide) rfl (fun ls hl => ?_)
          have hl : lv_has ls 7 [(4, .int (nI (i + 1))), (2, .long (appl (x.1 11 a) (i + 1))), (5, .long ((x.1 11 a i).toInt64)), (0, .ref (qm 0)), (1, .int (nI a))] := hl
          refine lv_goto (tgt := 5) hx hb dModel_applied_57 (by decide) ?_
          exact ih5 (i + 1) ls H locs (by omega) (lv_sub hl [0, 1, 3, 4] rfl) hP hD hS
        · refine lv_lload_n hx hb dModel_applied_40 rfl (lv_at hl 2 rfl) ?_
          refine lv_lload hx hb dModel_applied_41 (lv_at hl 0 rfl) ?_
          refine lv_ladd hx hb dModel_applied_43 ?_
          refine lv_goto (tgt := 53) hx hb dModel_applied_44 (by decide) ?_
          refine lv_topl (nm_r (app_t (f := x.1 11 a) ((app_l (hIv.2.2.2.2 a i)).mp (lgc.mp c37))) ?_)
          refine lv_lstore_n hx hb dModel_applied_53 rfl hl (by decide) rfl (fun ls hl => ?_)
          have hl : lv_has ls 7 [(2, .long (appl (x.1 11 a) (i + 1))), (5, .long ((x.1 11 a i).toInt64)), (4, .int (nI i)), (0, .ref (qm 0)), (1, .int (nI a))] := hl
          refine lv_iinc (k := 2) (v := nI (i + 1)) hx hb dModel_applied_54 hl rfl ((nI_succ _).symm) (by decide) rfl (fun ls hl => ?_)
          have hl : lv_has ls 7 [(4, .int (nI (i + 1))), (2, .long (appl (x.1 11 a) (i + 1))), (5, .long ((x.1 11 a i).toInt64)), (0, .ref (qm 0)), (1, .int (nI a))] := hl
          refine lv_goto (tgt := 5) hx hb dModel_applied_57 (by decide) ?_
          exact ih5 (i + 1) ls H locs (by omega) (lv_sub hl [0, 1, 3, 4] rfl) hP hD hS
    exact loop5 (lst (x.1 11 a) S 0) 0 ls s.heap [] (by omega) hl hP hD hS
  · refine lv_iload hx hb dModel_applied_5 (lv_at hl 0 rfl) ?_
    refine lv_aload_n hx hb dModel_applied_7 rfl (lv_at hl 2 rfl) ?_
    refine lv_iload_n hx hb dModel_applied_8 rfl (lv_at hl 3 rfl) ?_
    have hPc := hP.sub (ws' := (wM qm cI cZ n S P x)) [0, 1, 2, 3, 4, 5, 6, 7, 8, 9, 10, 11, 12, 13, 14, 15, 16, 17, 18, 19, 20] rfl
    have hDc := hD.sub (ws' := (wM qm cI cZ n S P x)) [0, 1, 2, 3, 4, 5, 6, 7, 8, 9, 10, 11, 12, 13, 14, 15, 16, 17, 18, 19, 20] (by decide) rfl
    refine kx_i (va_runV (As := [.int nd]) (rest := [.int (nI 0)]) ⟨hx, hb, hml, hown, hts⟩ ((m_pfx l D cI cZ qm n S P x nd (hn1) (hn5) (hS1) (hS4) (hP5) (hP64) (hIv)) s.heap.size) (cwV 1 hts (gV wd610 wd603 wd604 wd7 wd605) rfl rfl rfl (by decide +kernel) ⟨Nat.le_of_ble_eq_true rfl, Nat.le_of_ble_eq_true rfl⟩) ⟨fb_PW, va_recv (q0 := 0) (ci := 5) hK hPc rfl rfl, pre_PW hK hPc hDc hZ⟩ rfl rfl hl.1 rfl (lv_room (Nat.le_of_ble_eq_true rfl)) dModel_applied_9 ⟨Nat.zero_le _, Nat.zero_le _⟩) hP hD hS hA [0, 1, 2, 3, 4, 5, 6, 7, 8, 9, 10, 11, 12, 13, 14, 15, 16, 17, 18, 19, 20] [] rfl rfl (by decide) (by decide) (fun r w1 H locs hw hP hD hS => ?_)
    obtain ⟨rfl, rfl⟩ := hw
    have hP : va_P D vwCl (wM qm cI cZ n S P x) H := hP
    have hD : va_D A (wM qm cI cZ n S P x) := hD
    refine lv_icmp_ge (tgt := 60) hx hb dModel_applied_12 (by decide) (fun _ => ?_) (fun h9 => absurd (show aPfx n S x nd ≤ nI 0 by unfold aPfx; rw [if_neg hok]; decide) h9)
    refine lv_lload_n hx hb dModel_applied_60 rfl (lv_at hl 1 rfl) ?_
    exact W.lret (v := 0) hx hb hr (fun t9 ht9 hW9 => ⟨⟨0, (wM qm cI cZ n S P x), rfl, ⟨by unfold aApp; rw [if_neg hok], rfl⟩, by rw [ht9]; exact hP, va_K.moved hW9.alike hK, hD⟩, hS.F ht9⟩) hS.2.2 dModel_applied_61
theorem dModel_sweep_0 : decode cModel_sweep 0 = .ok (.iload_n 1, 1) := by decide +kernel
theorem dModel_sweep_1 : decode cModel_sweep 1 = .ok (.ifCond .lt 9, 3) := by decide +kernel
theorem dModel_sweep_4 : decode cModel_sweep 4 = .ok (.iload_n 1, 1) := by decide +kernel
theorem dModel_sweep_5 : decode cModel_sweep 5 = .ok (.bipush 100, 2) := by decide +kernel
theorem dModel_sweep_7 : decode cModel_sweep 7 = .ok (.if_icmp .le 5, 3) := by decide +kernel
theorem dModel_sweep_10 : decode cModel_sweep 10 = .ok (.iconst (-1), 1) := by decide +kernel
theorem dModel_sweep_11 : decode cModel_sweep 11 = .ok (.ireturn, 1) := by decide +kernel
theorem dModel_sweep_12 : decode cModel_sweep 12 = .ok (.iconst 0, 1) := by decide +kernel
theorem dModel_sweep_13 : decode cModel_sweep 13 = .ok (.istore_n 2, 1) := by decide +kernel
theorem dModel_sweep_14 : decode cModel_sweep 14 = .ok (.iconst 0, 1) := by decide +kernel
theorem dModel_sweep_15 : decode cModel_sweep 15 = .ok (.istore_n 3, 1) := by decide +kernel
theorem dModel_sweep_16 : decode cModel_sweep 16 = .ok (.iload_n 2, 1) := by decide +kernel
theorem dModel_sweep_17 : decode cModel_sweep 17 = .ok (.iload_n 1, 1) := by decide +kernel
theorem dModel_sweep_18 : decode cModel_sweep 18 = .ok (.if_icmp .ge 41, 3) := by decide +kernel
theorem dModel_sweep_21 : decode cModel_sweep 21 = .ok (.iload_n 3, 1) := by decide +kernel
theorem dModel_sweep_22 : decode cModel_sweep 22 = .ok (.aload_n 0, 1) := by decide +kernel
theorem dModel_sweep_23 : decode cModel_sweep 23 = .ok (.getfield 78, 3) := by decide +kernel
theorem dModel_sweep_26 : decode cModel_sweep 26 = .ok (.if_icmp .ge 33, 3) := by decide +kernel
theorem dModel_sweep_29 : decode cModel_sweep 29 = .ok (.aload_n 0, 1) := by decide +kernel
theorem dModel_sweep_30 : decode cModel_sweep 30 = .ok (.iload_n 3, 1) := by decide +kernel
theorem dModel_sweep_31 : decode cModel_sweep 31 = .ok (.invokevirtual 124, 3) := by decide +kernel
theorem dModel_sweep_34 : decode cModel_sweep 34 = .ok (.ifCond .eq 19, 3) := by decide +kernel
theorem dModel_sweep_37 : decode cModel_sweep 37 = .ok (.aload_n 0, 1) := by decide +kernel
theorem dModel_sweep_38 : decode cModel_sweep 38 = .ok (.iload_n 3, 1) := by decide +kernel
theorem dModel_sweep_39 : decode cModel_sweep 39 = .ok (.invokevirtual 140, 3) := by decide +kernel
theorem dModel_sweep_42 : decode cModel_sweep 42 = .ok (.ifCond .lt 11, 3) := by decide +kernel
theorem dModel_sweep_45 : decode cModel_sweep 45 = .ok (.iinc 2  1, 3) := by decide +kernel
theorem dModel_sweep_48 : decode cModel_sweep 48 = .ok (.iconst 0, 1) := by decide +kernel
theorem dModel_sweep_49 : decode cModel_sweep 49 = .ok (.istore_n 3, 1) := by decide +kernel
theorem dModel_sweep_50 : decode cModel_sweep 50 = .ok (.goto (-34), 3) := by decide +kernel
theorem dModel_sweep_53 : decode cModel_sweep 53 = .ok (.iinc 3  1, 3) := by decide +kernel
theorem dModel_sweep_56 : decode cModel_sweep 56 = .ok (.goto (-40), 3) := by decide +kernel
theorem dModel_sweep_59 : decode cModel_sweep 59 = .ok (.iload_n 2, 1) := by decide +kernel
theorem dModel_sweep_60 : decode cModel_sweep 60 = .ok (.ireturn, 1) := by decide +kernel
set_option maxRecDepth 100000 in
set_option maxHeartbeats 4000000 in
theorem m_sweep (l : Launch) (D : va_G) (cI cZ : ClassId) (qm : Nat → Nat) (n : Nat) (S : Nat) (P : Nat) (x : St) (v : Int32) (hn1 : 1 ≤ n) (hn5 : n ≤ 5) (hS1 : 1 ≤ S) (hS4 : S ≤ 4) (hP5 : 5 ≤ P) (hP64 : P ≤ 64) (hIn : Inv n S x) : MI l D [(cI, .int), (cZ, .boolean)] yModel_sweep wsModel_sweep ({ frames := 5, cells := 0, slots := 0, locals := 128 }) [.ref (qm 0), .int v] (wM qm cI cZ n S P x) (fun r w => r = (sSweep n P x v).1 ∧ w = (wM qm cI cZ n S P (sSweep n P x v).2)) := by
  intro sz
  refine Met.ofW (cc := cModel_sweep) (maxL := 4) (ret := (Option.some .int)) (by decide) rfl ?_
  intro p e s m args below meth c s₁ B hml hv
  obtain ⟨rfl, hsz, hP, hK, hD0, hZ⟩ := hv
  have hx := B.exec
  have hb := B.bytes
  have hr := B.returns
  have hts := atoms_spec (ws := wsModel_sweep) B.pre
  have hown : s.vm.findClass RModel = some m.cls := findClass_of_methodNamed B.named
  have hlocks := B.notSynchronized
  subst hsz
  have hD := hD0.self (sz := s.heap.size)
  generalize hAe : va_A (wM qm cI cZ n S P x) s.heap.size = A at hD ⊢
  have hA : ∀ q : Nat, s.heap.size ≤ q → A q := fun q h => by rw [← hAe]; exact Or.inr h
  have hS : va_S A s.heap s.heap [] := va_S.rf
  have hP : va_P D vwCl (wM qm cI cZ n S P x) s.heap := hP
  have hl := lv_entry ([.ref (qm 0), .int v]) (n := 4) (Nat.le_of_ble_eq_true rfl)
  rw [lg_entry_eq]
  generalize (lg_sl ([.ref (qm 0), .int v]) ++ List.replicate (4 - (lg_sl ([.ref (qm 0), .int v])).length) Slot.unset).toArray = ls at hl ⊢
  have hl : lv_has ls 4 [(0, .ref (qm 0)), (1, .int v)] := hl
  refine lv_iload_n hx hb dModel_sweep_0 rfl (lv_at hl 1 rfl) ?_
  refine lv_if_lt (tgt := 10) hx hb dModel_sweep_1 (by decide) (fun c1 => ?_) (fun c1 => ?_)
  · refine lv_iconst (v := (-1)) hx hb dModel_sweep_10 (by decide) ?_
    exact W.iret (v := (-1)) hx hb hr (fun t9 ht9 hW9 => ⟨⟨(-1), (wM qm cI cZ n S P x), rfl, fin3 (if_neg (fun h => absurd h.1 (Int32.not_le.mpr c1))), by rw [ht9]; exact hP, va_K.moved hW9.alike hK, hD⟩, hS.F ht9⟩) hS.2.2 dModel_sweep_11
  · refine lv_iload_n hx hb dModel_sweep_4 rfl (lv_at hl 1 rfl) ?_
    refine lv_bipush (v := nI 100) hx hb dModel_sweep_5 (by decide) ?_
    refine lv_icmp_le (tgt := 12) hx hb dModel_sweep_7 (by decide) (fun c7 => ?_) (fun c7 => ?_)
    · obtain ⟨kk, hkk, rfl⟩ := wi_of (P := 101) (by decide) (by decide) ⟨Int32.not_lt.mp c1, c7⟩
      refine lv_iconst (v := nI 0) hx hb dModel_sweep_12 (by decide) ?_
      refine lv_istore_n hx hb dModel_sweep_13 rfl hl (by decide) rfl (fun ls hl => ?_)
      have hl : lv_has ls 4 [(2, .int (nI 0)), (0, .ref (qm 0)), (1, .int (nI kk))] := hl
      refine lv_iconst (v := nI 0) hx hb dModel_sweep_14 (by decide) ?_
      refine lv_istore_n hx hb dModel_sweep_15 rfl hl (by decide) rfl (fun ls hl => ?_)
      have hl : lv_has ls 4 [(3, .int (nI 0)), (2, .int (nI 0)), (0, .ref (qm 0)), (1, .int (nI kk))] := hl
      have loop16 : ∀ (d16 i : Nat) (y : St), i + d16 = kk → Inv n S y → (i + (sSw n P d16 y).1 = (sSw n P kk x).1 ∧ (sSw n P d16 y).2 = (sSw n P kk x).2) → ∀ (e16 jj : Nat) (ls : Array Slot) (H : Heap) (locs : List Loc), jj + e16 = P → (∀ m9, m9 < jj → ¬ (y.1 0 m9 0 ≠ 0 ∧ ¬ sBlk n P y m9)) → lv_has ls 4 [(3, .int (nI jj)), (2, .int (nI i)), (0, .ref (qm 0)), (1, .int (nI kk))] → va_P D vwCl (wM qm cI cZ n S P y) H → va_D A (wM qm cI cZ n S P y) → va_S A s.heap H locs → W p l e (headSpec wsModel_sweep { frames := 5, cells := 0, slots := 0, locals := 128 }).room s m [.ref (qm 0), .int (nI kk)].toArray below meth c H locs 0 0 (MQ below (va_Qi (fun r w => r = (sSweep n P x (nI kk)).1 ∧ w = (wM qm cI cZ n S P (sSweep n P x (nI kk)).2)) (QW D [(cI, .int), (cZ, .boolean)] A) A) [.ref (qm 0), .int (nI kk)].toArray s 0 0 A) (F0 m 16 ls []) := by
        intro d16
        induction d16 with
        | zero =>
          intro i y hid hInv hR e16 jj ls H locs hje hno hl hP hD hS
          refine lv_iload_n hx hb dModel_sweep_16 rfl (lv_at hl 1 rfl) ?_
          refine lv_iload_n hx hb dModel_sweep_17 rfl (lv_at hl 3 rfl) ?_
          refine lv_icmp_ge (tgt := 59) hx hb dModel_sweep_18 (by decide) (fun _ => ?_) (fun h9 => absurd (nI_le (by omega) (by omega)) h9)
          refine lv_iload_n hx hb dModel_sweep_59 rfl (lv_at hl 1 rfl) ?_
          have hres : sSweep n P x (nI kk) = (nI (sSw n P kk x).1, (sSw n P kk x).2) := by
            unfold sSweep
            rw [if_pos (show 0 ≤ nI kk ∧ nI kk ≤ nI 100 from ⟨nI_pos' (by omega), nI_le (by omega) (by decide)⟩), ix_nI hkk (by omega)]
          have hi1 : i = (sSw n P kk x).1 := hR.1
          have hy1 : y = (sSw n P kk x).2 := hR.2
          exact W.iret (v := nI i) hx hb hr (fun t9 ht9 hW9 => ⟨⟨nI i, (wM qm cI cZ n S P y), rfl, ⟨by rw [hres]; exact congrArg nI hi1, by rw [hres, ← hy1]⟩, by rw [ht9]; exact hP, va_K.moved hW9.alike hK, hD⟩, hS.F ht9⟩) hS.2.2 dModel_sweep_60
        | succ d16 ih16 =>
          intro i y hid hInv hR e16
          induction e16 with
          | zero =>
            intro jj ls H locs hje hno hl hP hD hS
            refine lv_iload_n hx hb dModel_sweep_16 rfl (lv_at hl 1 rfl) ?_
            refine lv_iload_n hx hb dModel_sweep_17 rfl (lv_at hl 3 rfl) ?_
            refine lv_icmp_ge (tgt := 59) hx hb dModel_sweep_18 (by decide) (fun h9 => absurd h9 (nI_ge (by omega) (by omega))) (fun _ => ?_)
            refine lv_iload_n hx hb dModel_sweep_21 rfl (lv_at hl 0 rfl) ?_
            refine lv_aload_n hx hb dModel_sweep_22 rfl (lv_at hl 2 rfl) ?_
            refine va_get (D := D) (ci := 5) (v := .int (nI P)) (C := RModel) (T := TModel) (N := 25) hx hb hts (fun w h => mc (uModel_in w h)) hown hK hP 0 rfl rfl 2 (by decide) (hts _ (mc wd407)) (fun _ h9 => h9) rfl dModel_sweep_23 ?_
            refine lv_icmp_ge (tgt := 59) hx hb dModel_sweep_26 (by decide) (fun _ => ?_) (fun h9 => absurd (nI_le (by omega) (by omega)) h9)
            refine lv_iload_n hx hb dModel_sweep_59 rfl (lv_at hl 1 rfl) ?_
            have hres : sSweep n P x (nI kk) = (nI (sSw n P kk x).1, (sSw n P kk x).2) := by
              unfold sSweep
              rw [if_pos (show 0 ≤ nI kk ∧ nI kk ≤ nI 100 from ⟨nI_pos' (by omega), nI_le (by omega) (by decide)⟩), ix_nI hkk (by omega)]
            rw [sSw_e (ldv_all (show jj = P by omega) hno)] at hR
            have hi1 : i = (sSw n P kk x).1 := hR.1
            have hy1 : y = (sSw n P kk x).2 := hR.2
            exact W.iret (v := nI i) hx hb hr (fun t9 ht9 hW9 => ⟨⟨nI i, (wM qm cI cZ n S P y), rfl, ⟨by rw [hres]; exact congrArg nI hi1, by rw [hres, ← hy1]⟩, by rw [ht9]; exact hP, va_K.moved hW9.alike hK, hD⟩, hS.F ht9⟩) hS.2.2 dModel_sweep_60
          | succ e16 ihe =>
            intro jj ls H locs hje hno hl hP hD hS
            refine lv_iload_n hx hb dModel_sweep_16 rfl (lv_at hl 1 rfl) ?_
            refine lv_iload_n hx hb dModel_sweep_17 rfl (lv_at hl 3 rfl) ?_
            refine lv_icmp_ge (tgt := 59) hx hb dModel_sweep_18 (by decide) (fun h9 => absurd h9 (nI_ge (by omega) (by omega))) (fun _ => ?_)
            refine lv_iload_n hx hb dModel_sweep_21 rfl (lv_at hl 0 rfl) ?_
            refine lv_aload_n hx hb dModel_sweep_22 rfl (lv_at hl 2 rfl) ?_
            refine va_get (D := D) (ci := 5) (v := .int (nI P)) (C := RModel) (T := TModel) (N := 25) hx hb hts (fun w h => mc (uModel_in w h)) hown hK hP 0 rfl rfl 2 (by decide) (hts _ (mc wd407)) (fun _ h9 => h9) rfl dModel_sweep_23 ?_
            refine lv_icmp_ge (tgt := 59) hx hb dModel_sweep_26 (by decide) (fun h9 => absurd h9 (nI_ge (by omega) (by omega))) (fun _ => ?_)
            refine lv_aload_n hx hb dModel_sweep_29 rfl (lv_at hl 2 rfl) ?_
            refine lv_iload_n hx hb dModel_sweep_30 rfl (lv_at hl 0 rfl) ?_
            have hPc := hP.sub (ws' := (wM qm cI cZ n S P y)) [0, 1, 2, 3, 4, 5, 6, 7, 8, 9, 10, 11, 12, 13, 14, 15, 16, 17, 18, 19, 20] rfl
            have hDc := hD.sub (ws' := (wM qm cI cZ n S P y)) [0, 1, 2, 3, 4, 5, 6, 7, 8, 9, 10, 11, 12, 13, 14, 15, 16, 17, 18, 19, 20] (by decide) rfl
            refine kx_i (va_runV (As := [.int (nI jj)]) (rest := []) ⟨hx, hb, hml, hown, hts⟩ ((m_isMessage l D cI cZ qm n S P y (nI jj) (hn1) (hn5) (hS1) (hS4) (hP5) (hP64) (hInv.1)) H.size) (cwV 1 hts (gV wd510 wd512 sl_Model_isMessage wd7 wd513) rfl rfl rfl (by decide +kernel) ⟨Nat.le_of_ble_eq_true rfl, Nat.le_of_ble_eq_true rfl⟩) ⟨fb_PW, va_recv (q0 := 0) (ci := 5) hK hPc rfl rfl, pre_PW hK hPc hDc hZ⟩ rfl rfl hl.1 rfl (lv_room (Nat.le_of_ble_eq_true rfl)) dModel_sweep_31 ⟨Nat.zero_le _, Nat.zero_le _⟩) hP hD hS hA [0, 1, 2, 3, 4, 5, 6, 7, 8, 9, 10, 11, 12, 13, 14, 15, 16, 17, 18, 19, 20] [] rfl rfl (by decide) (by decide) (fun r w1 H locs hw hP hD hS => ?_)
            rcases hw with ⟨rfl, h31, rfl⟩ | ⟨rfl, h31, rfl⟩
            · have hP : va_P D vwCl (wM qm cI cZ n S P y) H := hP
              have hD : va_D A (wM qm cI cZ n S P y) := hD
              have hkj : y.1 0 jj 0 ≠ 0 := by have h6 := h31.2; rw [ix_nI (show jj < P by omega) (by omega)] at h6; exact h6
              refine lv_if_eq (tgt := 53) hx hb dModel_sweep_34 (by decide) (fun h9 => absurd h9 (by decide)) (fun _ => ?_)
              refine lv_aload_n hx hb dModel_sweep_37 rfl (lv_at hl 2 rfl) ?_
              refine lv_iload_n hx hb dModel_sweep_38 rfl (lv_at hl 0 rfl) ?_
              have hPc := hP.sub (ws' := (wM qm cI cZ n S P y)) [0, 1, 2, 3, 4, 5, 6, 7, 8, 9, 10, 11, 12, 13, 14, 15, 16, 17, 18, 19, 20] rfl
              have hDc := hD.sub (ws' := (wM qm cI cZ n S P y)) [0, 1, 2, 3, 4, 5, 6, 7, 8, 9, 10, 11, 12, 13, 14, 15, 16, 17, 18, 19, 20] (by decide) rfl
              refine kx_i (va_runV (As := [.int (nI jj)]) (rest := []) ⟨hx, hb, hml, hown, hts⟩ ((m_deliver l D cI cZ qm n S P y (nI jj) (hn1) (hn5) (hS1) (hS4) (hP5) (hP64) (hInv)) H.size) (cwV 1 hts (gV wd553 wd507 wd508 wd7 wd509) rfl rfl rfl (by decide +kernel) ⟨Nat.le_of_ble_eq_true rfl, Nat.le_of_ble_eq_true rfl⟩) ⟨fb_PW, va_recv (q0 := 0) (ci := 5) hK hPc rfl rfl, pre_PW hK hPc hDc hZ⟩ rfl rfl hl.1 rfl (lv_room (Nat.le_of_ble_eq_true rfl)) dModel_sweep_39 ⟨Nat.zero_le _, Nat.zero_le _⟩) hP hD hS hA [0, 1, 2, 3, 4, 5, 6, 7, 8, 9, 10, 11, 12, 13, 14, 15, 16, 17, 18, 19, 20] [] rfl rfl (by decide) (by decide) (fun r w1 H locs hw hP hD hS => ?_)
              obtain ⟨rfl, rfl⟩ := hw
              have hP : va_P D vwCl (wM qm cI cZ n S P ((sDel n P y (nI jj)).2)) H := hP
              have hD : va_D A (wM qm cI cZ n S P ((sDel n P y (nI jj)).2)) := hD
              refine lv_if_lt (tgt := 53) hx hb dModel_sweep_42 (by decide) (fun c42 => ?_) (fun c42 => ?_)
              · have hstep : ¬ (y.1 0 jj 0 ≠ 0 ∧ ¬ sBlk n P y jj) := fun q9 => absurd (del_pos hInv (by omega) (show jj < P by omega) q9.1 q9.2) (Int32.not_le.mpr c42)
                have hsame : (sDel n P y (nI jj)).2 = y := del_neg hInv (by omega) (show jj < P by omega) hkj c42
                rw [hsame] at hP hD
                refine lv_iinc (k := 0) (v := nI (jj + 1)) hx hb dModel_sweep_53 hl rfl ((nI_succ _).symm) (by decide) rfl (fun ls hl => ?_)
                have hl : lv_has ls 4 [(3, .int (nI (jj + 1))), (2, .int (nI i)), (0, .ref (qm 0)), (1, .int (nI kk))] := hl
                refine lv_goto (tgt := 16) hx hb dModel_sweep_56 (by decide) ?_
                exact ihe (jj + 1) ls H locs (by omega) (lt_s (p := fun m9 => ¬ (y.1 0 m9 0 ≠ 0 ∧ ¬ sBlk n P y m9)) hno hstep) (lv_sub hl [0, 1, 2, 3] rfl) hP hD hS
              · have hgo := del_yes hInv (by omega) (show jj < P by omega) hkj c42
                have hld : ldv n P y P 0 = jj := ldv_is (show jj < P by omega) hno ⟨hkj, hgo.1⟩
                have hInv2 : Inv n S (sDel n P y (nI jj)).2 := Inv_del hn5 hS4 hInv
                have hR2 : i + 1 + (sSw n P d16 (sDel n P y (nI jj)).2).1 = (sSw n P kk x).1 ∧ (sSw n P d16 (sDel n P y (nI jj)).2).2 = (sSw n P kk x).2 := by
                  rw [sSw_s (by rw [hld]; omega), hld, ← hgo.2] at hR
                  exact ⟨by have h7 := hR.1; simp only at h7; omega, hR.2⟩
                refine lv_iinc (k := 1) (v := nI (i + 1)) hx hb dModel_sweep_45 hl rfl ((nI_succ _).symm) (by decide) rfl (fun ls hl => ?_)
                have hl : lv_has ls 4 [(2, .int (nI (i + 1))), (3, .int (nI jj)), (0, .ref (qm 0)), (1, .int (nI kk))] := hl
                refine lv_iconst (v := nI 0) hx hb dModel_sweep_48 (by decide) ?_
                refine lv_istore_n hx hb dModel_sweep_49 rfl hl (by decide) rfl (fun ls hl => ?_)
                have hl : lv_has ls 4 [(3, .int (nI 0)), (2, .int (nI (i + 1))), (0, .ref (qm 0)), (1, .int (nI kk))] := hl
                refine lv_goto (tgt := 16) hx hb dModel_sweep_50 (by decide) ?_
                exact ih16 (i + 1) (sDel n P y (nI jj)).2 (by omega) hInv2 hR2 P 0 ls H locs (by omega) (fun m9 h9 => absurd h9 (Nat.not_lt_zero _)) (lv_sub hl [0, 1, 2, 3] rfl) hP hD hS
            · have hP : va_P D vwCl (wM qm cI cZ n S P y) H := hP
              have hD : va_D A (wM qm cI cZ n S P y) := hD
              have hstep : ¬ (y.1 0 jj 0 ≠ 0 ∧ ¬ sBlk n P y jj) := fun q9 => h31 ⟨okN_nI (by omega) (by omega), by rw [ix_nI (show jj < P by omega) (by omega)]; exact q9.1⟩
              refine lv_if_eq (tgt := 53) hx hb dModel_sweep_34 (by decide) (fun _ => ?_) (fun h9 => absurd (by decide) h9)
              refine lv_iinc (k := 0) (v := nI (jj + 1)) hx hb dModel_sweep_53 hl rfl ((nI_succ _).symm) (by decide) rfl (fun ls hl => ?_)
              have hl : lv_has ls 4 [(3, .int (nI (jj + 1))), (2, .int (nI i)), (0, .ref (qm 0)), (1, .int (nI kk))] := hl
              refine lv_goto (tgt := 16) hx hb dModel_sweep_56 (by decide) ?_
              exact ihe (jj + 1) ls H locs (by omega) (lt_s (p := fun m9 => ¬ (y.1 0 m9 0 ≠ 0 ∧ ¬ sBlk n P y m9)) hno hstep) (lv_sub hl [0, 1, 2, 3] rfl) hP hD hS
      exact loop16 kk 0 x (by omega) hIn ⟨Nat.zero_add _, rfl⟩ P 0 ls s.heap [] (by omega) (fun m9 h9 => absurd h9 (Nat.not_lt_zero _)) (lv_sub hl [0, 1, 2, 3] rfl) hP hD hS
    · refine lv_iconst (v := (-1)) hx hb dModel_sweep_10 (by decide) ?_
      exact W.iret (v := (-1)) hx hb hr (fun t9 ht9 hW9 => ⟨⟨(-1), (wM qm cI cZ n S P x), rfl, fin3 (if_neg (fun h => c7 h.2)), by rw [ht9]; exact hP, va_K.moved hW9.alike hK, hD⟩, hS.F ht9⟩) hS.2.2 dModel_sweep_11
