theorem dModel_prepare_0 : decode cModel_prepare 0 = .ok (.aload_n 0, 1) := by decide +kernel
theorem dModel_prepare_1 : decode cModel_prepare 1 = .ok (.iload_n 1, 1) := by decide +kernel
theorem dModel_prepare_2 : decode cModel_prepare 2 = .ok (.invokevirtual 85, 3) := by decide +kernel
theorem dModel_prepare_5 : decode cModel_prepare 5 = .ok (.ifCond .eq 28, 3) := by decide +kernel
theorem dModel_prepare_8 : decode cModel_prepare 8 = .ok (.aload_n 0, 1) := by decide +kernel
theorem dModel_prepare_9 : decode cModel_prepare 9 = .ok (.iload_n 2, 1) := by decide +kernel
theorem dModel_prepare_10 : decode cModel_prepare 10 = .ok (.invokevirtual 89, 3) := by decide +kernel
theorem dModel_prepare_13 : decode cModel_prepare 13 = .ok (.ifCond .eq 20, 3) := by decide +kernel
theorem dModel_prepare_16 : decode cModel_prepare 16 = .ok (.iload_n 3, 1) := by decide +kernel
theorem dModel_prepare_17 : decode cModel_prepare 17 = .ok (.ifCond .lt 16, 3) := by decide +kernel
theorem dModel_prepare_20 : decode cModel_prepare 20 = .ok (.iload_n 3, 1) := by decide +kernel
theorem dModel_prepare_21 : decode cModel_prepare 21 = .ok (.sipush 1000, 3) := by decide +kernel
theorem dModel_prepare_24 : decode cModel_prepare 24 = .ok (.if_icmp .gt 9, 3) := by decide +kernel
theorem dModel_prepare_27 : decode cModel_prepare 27 = .ok (.iload 4, 2) := by decide +kernel
theorem dModel_prepare_29 : decode cModel_prepare 29 = .ok (.iconst 1, 1) := by decide +kernel
theorem dModel_prepare_30 : decode cModel_prepare 30 = .ok (.if_icmp .ge 5, 3) := by decide +kernel
theorem dModel_prepare_33 : decode cModel_prepare 33 = .ok (.iconst (-1), 1) := by decide +kernel
theorem dModel_prepare_34 : decode cModel_prepare 34 = .ok (.ireturn, 1) := by decide +kernel
theorem dModel_prepare_35 : decode cModel_prepare 35 = .ok (.iconst 4, 1) := by decide +kernel
theorem dModel_prepare_36 : decode cModel_prepare 36 = .ok (.iload_n 1, 1) := by decide +kernel
theorem dModel_prepare_37 : decode cModel_prepare 37 = .ok (.imul, 1) := by decide +kernel
theorem dModel_prepare_38 : decode cModel_prepare 38 = .ok (.iload_n 2, 1) := by decide +kernel
theorem dModel_prepare_39 : decode cModel_prepare 39 = .ok (.iadd, 1) := by decide +kernel
theorem dModel_prepare_40 : decode cModel_prepare 40 = .ok (.istore 5, 2) := by decide +kernel
theorem dModel_prepare_42 : decode cModel_prepare 42 = .ok (.iload_n 3, 1) := by decide +kernel
theorem dModel_prepare_43 : decode cModel_prepare 43 = .ok (.aload_n 0, 1) := by decide +kernel
theorem dModel_prepare_44 : decode cModel_prepare 44 = .ok (.getfield 71, 3) := by decide +kernel
theorem dModel_prepare_47 : decode cModel_prepare 47 = .ok (.imul, 1) := by decide +kernel
theorem dModel_prepare_48 : decode cModel_prepare 48 = .ok (.iload_n 1, 1) := by decide +kernel
theorem dModel_prepare_49 : decode cModel_prepare 49 = .ok (.iadd, 1) := by decide +kernel
theorem dModel_prepare_50 : decode cModel_prepare 50 = .ok (.istore 6, 2) := by decide +kernel
theorem dModel_prepare_52 : decode cModel_prepare 52 = .ok (.aload_n 0, 1) := by decide +kernel
theorem dModel_prepare_53 : decode cModel_prepare 53 = .ok (.getfield 7, 3) := by decide +kernel
theorem dModel_prepare_56 : decode cModel_prepare 56 = .ok (.iload_n 1, 1) := by decide +kernel
theorem dModel_prepare_57 : decode cModel_prepare 57 = .ok (.baload, 1) := by decide +kernel
theorem dModel_prepare_58 : decode cModel_prepare 58 = .ok (.ifCond .eq 6, 3) := by decide +kernel
theorem dModel_prepare_61 : decode cModel_prepare 61 = .ok (.bipush (-2), 2) := by decide +kernel
theorem dModel_prepare_63 : decode cModel_prepare 63 = .ok (.ireturn, 1) := by decide +kernel
theorem dModel_prepare_64 : decode cModel_prepare 64 = .ok (.iload 6, 2) := by decide +kernel
theorem dModel_prepare_66 : decode cModel_prepare 66 = .ok (.aload_n 0, 1) := by decide +kernel
theorem dModel_prepare_67 : decode cModel_prepare 67 = .ok (.getfield 35, 3) := by decide +kernel
theorem dModel_prepare_70 : decode cModel_prepare 70 = .ok (.iload 5, 2) := by decide +kernel
theorem dModel_prepare_72 : decode cModel_prepare 72 = .ok (.iaload, 1) := by decide +kernel
theorem dModel_prepare_73 : decode cModel_prepare 73 = .ok (.if_icmp .gt 6, 3) := by decide +kernel
theorem dModel_prepare_76 : decode cModel_prepare 76 = .ok (.bipush (-3), 2) := by decide +kernel
theorem dModel_prepare_78 : decode cModel_prepare 78 = .ok (.ireturn, 1) := by decide +kernel
theorem dModel_prepare_79 : decode cModel_prepare 79 = .ok (.aload_n 0, 1) := by decide +kernel
theorem dModel_prepare_80 : decode cModel_prepare 80 = .ok (.invokevirtual 92, 3) := by decide +kernel
theorem dModel_prepare_83 : decode cModel_prepare 83 = .ok (.aload_n 0, 1) := by decide +kernel
theorem dModel_prepare_84 : decode cModel_prepare 84 = .ok (.getfield 71, 3) := by decide +kernel
theorem dModel_prepare_87 : decode cModel_prepare 87 = .ok (.if_icmp .ge 6, 3) := by decide +kernel
theorem dModel_prepare_90 : decode cModel_prepare 90 = .ok (.bipush (-4), 2) := by decide +kernel
theorem dModel_prepare_92 : decode cModel_prepare 92 = .ok (.ireturn, 1) := by decide +kernel
theorem dModel_prepare_93 : decode cModel_prepare 93 = .ok (.aload_n 0, 1) := by decide +kernel
theorem dModel_prepare_94 : decode cModel_prepare 94 = .ok (.getfield 35, 3) := by decide +kernel
theorem dModel_prepare_97 : decode cModel_prepare 97 = .ok (.iload 5, 2) := by decide +kernel
theorem dModel_prepare_99 : decode cModel_prepare 99 = .ok (.iload 6, 2) := by decide +kernel
theorem dModel_prepare_101 : decode cModel_prepare 101 = .ok (.iastore, 1) := by decide +kernel
theorem dModel_prepare_102 : decode cModel_prepare 102 = .ok (.aload_n 0, 1) := by decide +kernel
theorem dModel_prepare_103 : decode cModel_prepare 103 = .ok (.getfield 38, 3) := by decide +kernel
theorem dModel_prepare_106 : decode cModel_prepare 106 = .ok (.iload 5, 2) := by decide +kernel
theorem dModel_prepare_108 : decode cModel_prepare 108 = .ok (.iconst 1, 1) := by decide +kernel
theorem dModel_prepare_109 : decode cModel_prepare 109 = .ok (.iastore, 1) := by decide +kernel
theorem dModel_prepare_110 : decode cModel_prepare 110 = .ok (.aload_n 0, 1) := by decide +kernel
theorem dModel_prepare_111 : decode cModel_prepare 111 = .ok (.getfield 41, 3) := by decide +kernel
theorem dModel_prepare_114 : decode cModel_prepare 114 = .ok (.iload 5, 2) := by decide +kernel
theorem dModel_prepare_116 : decode cModel_prepare 116 = .ok (.iload 4, 2) := by decide +kernel
theorem dModel_prepare_118 : decode cModel_prepare 118 = .ok (.iastore, 1) := by decide +kernel
theorem dModel_prepare_119 : decode cModel_prepare 119 = .ok (.aload_n 0, 1) := by decide +kernel
theorem dModel_prepare_120 : decode cModel_prepare 120 = .ok (.getfield 44, 3) := by decide +kernel
theorem dModel_prepare_123 : decode cModel_prepare 123 = .ok (.iload 5, 2) := by decide +kernel
theorem dModel_prepare_125 : decode cModel_prepare 125 = .ok (.iconst 0, 1) := by decide +kernel
theorem dModel_prepare_126 : decode cModel_prepare 126 = .ok (.iastore, 1) := by decide +kernel
theorem dModel_prepare_127 : decode cModel_prepare 127 = .ok (.aload_n 0, 1) := by decide +kernel
theorem dModel_prepare_128 : decode cModel_prepare 128 = .ok (.getfield 47, 3) := by decide +kernel
theorem dModel_prepare_131 : decode cModel_prepare 131 = .ok (.iload 5, 2) := by decide +kernel
theorem dModel_prepare_133 : decode cModel_prepare 133 = .ok (.iconst (-1), 1) := by decide +kernel
theorem dModel_prepare_134 : decode cModel_prepare 134 = .ok (.iastore, 1) := by decide +kernel
theorem dModel_prepare_135 : decode cModel_prepare 135 = .ok (.aload_n 0, 1) := by decide +kernel
theorem dModel_prepare_136 : decode cModel_prepare 136 = .ok (.getfield 50, 3) := by decide +kernel
theorem dModel_prepare_139 : decode cModel_prepare 139 = .ok (.iload 5, 2) := by decide +kernel
theorem dModel_prepare_141 : decode cModel_prepare 141 = .ok (.iconst 0, 1) := by decide +kernel
theorem dModel_prepare_142 : decode cModel_prepare 142 = .ok (.iastore, 1) := by decide +kernel
theorem dModel_prepare_143 : decode cModel_prepare 143 = .ok (.aload_n 0, 1) := by decide +kernel
theorem dModel_prepare_144 : decode cModel_prepare 144 = .ok (.iconst 1, 1) := by decide +kernel
theorem dModel_prepare_145 : decode cModel_prepare 145 = .ok (.iload_n 1, 1) := by decide +kernel
theorem dModel_prepare_146 : decode cModel_prepare 146 = .ok (.iload_n 2, 1) := by decide +kernel
theorem dModel_prepare_147 : decode cModel_prepare 147 = .ok (.iload 6, 2) := by decide +kernel
theorem dModel_prepare_149 : decode cModel_prepare 149 = .ok (.iconst 0, 1) := by decide +kernel
theorem dModel_prepare_150 : decode cModel_prepare 150 = .ok (.invokevirtual 96, 3) := by decide +kernel
theorem dModel_prepare_153 : decode cModel_prepare 153 = .ok (.iload 6, 2) := by decide +kernel
theorem dModel_prepare_155 : decode cModel_prepare 155 = .ok (.ireturn, 1) := by decide +kernel
set_option maxRecDepth 100000 in
set_option maxHeartbeats 4000000 in
theorem m_prepare (l : Launch) (D : va_G) (cI cZ : ClassId) (qm : Nat → Nat) (n : Nat) (S : Nat) (P : Nat) (x : St) (nd : Int32) (sl : Int32) (rd : Int32) (vl : Int32) (hn1 : 1 ≤ n) (hn5 : n ≤ 5) (hS1 : 1 ≤ S) (hS4 : S ≤ 4) (hP5 : 5 ≤ P) (hP64 : P ≤ 64) (hIn : Inv n S x) : MI l D [(cI, .int), (cZ, .boolean)] yModel_prepare wsModel_prepare ({ frames := 2, cells := 0, slots := 0, locals := 55 }) [.ref (qm 0), .int nd, .int sl, .int rd, .int vl] (wM qm cI cZ n S P x) (fun r w => r = (sPrep n S P x nd sl rd vl).1 ∧ w = (wM qm cI cZ n S P (sPrep n S P x nd sl rd vl).2)) := by
  intro sz
  refine Met.ofW (cc := cModel_prepare) (maxL := 7) (ret := (Option.some .int)) (by decide) rfl ?_
  intro p e s m args below meth c s₁ B hml hv
  obtain ⟨rfl, hsz, hP, hK, hD0, hZ⟩ := hv
  have hx := B.exec
  have hb := B.bytes
  have hr := B.returns
  have hts := atoms_spec (ws := wsModel_prepare) B.pre
  have hown : s.vm.findClass RModel = some m.cls := findClass_of_methodNamed B.named
  have hlocks := B.notSynchronized
  subst hsz
  have hD := hD0.self (sz := s.heap.size)
  generalize hAe : va_A (wM qm cI cZ n S P x) s.heap.size = A at hD ⊢
  have hA : ∀ q : Nat, s.heap.size ≤ q → A q := fun q h => by rw [← hAe]; exact Or.inr h
  have hS : va_S A s.heap s.heap [] := va_S.rf
  have hP : va_P D vwCl (wM qm cI cZ n S P x) s.heap := hP
  have hl := lv_entry ([.ref (qm 0), .int nd, .int sl, .int rd, .int vl]) (n := 7) (Nat.le_of_ble_eq_true rfl)
  rw [lg_entry_eq]
  generalize (lg_sl ([.ref (qm 0), .int nd, .int sl, .int rd, .int vl]) ++ List.replicate (7 - (lg_sl ([.ref (qm 0), .int nd, .int sl, .int rd, .int vl])).length) Slot.unset).toArray = ls at hl ⊢
  have hl : lv_has ls 7 [(0, .ref (qm 0)), (1, .int nd), (2, .int sl), (3, .int rd), (4, .int vl)] := hl
  refine lv_aload_n hx hb dModel_prepare_0 rfl (lv_at hl 0 rfl) ?_
  refine lv_iload_n hx hb dModel_prepare_1 rfl (lv_at hl 1 rfl) ?_
  have hPc := hP.sub (ws' := (wM qm cI cZ n S P x)) [0, 1, 2, 3, 4, 5, 6, 7, 8, 9, 10, 11, 12, 13, 14, 15, 16, 17, 18, 19, 20] rfl
  have hDc := hD.sub (ws' := (wM qm cI cZ n S P x)) [0, 1, 2, 3, 4, 5, 6, 7, 8, 9, 10, 11, 12, 13, 14, 15, 16, 17, 18, 19, 20] (by decide) rfl
  refine kx_i (va_runV (As := [.int nd]) (rest := []) ⟨hx, hb, hml, hown, hts⟩ ((m_isNode l D cI cZ qm n S P x nd (hn1) (hn5) (hS1) (hS4) (hP5) (hP64)) s.heap.size) (cwV 1 hts (gV wd486 wd488 sl_Model_isNode wd7 wd489) rfl rfl rfl (by decide +kernel) ⟨Nat.le_of_ble_eq_true rfl, Nat.le_of_ble_eq_true rfl⟩) ⟨fb_PW, va_recv (q0 := 0) (ci := 5) hK hPc rfl rfl, pre_PW hK hPc hDc hZ⟩ rfl rfl hl.1 rfl (lv_room (Nat.le_of_ble_eq_true rfl)) dModel_prepare_2 ⟨Nat.zero_le _, Nat.zero_le _⟩) hP hD hS hA [0, 1, 2, 3, 4, 5, 6, 7, 8, 9, 10, 11, 12, 13, 14, 15, 16, 17, 18, 19, 20] [] rfl rfl (by decide) (by decide) (fun r w1 H locs hw hP hD hS => ?_)
  rcases hw with ⟨rfl, h2, rfl⟩ | ⟨rfl, h2, rfl⟩
  · have hP : va_P D vwCl (wM qm cI cZ n S P x) H := hP
    have hD : va_D A (wM qm cI cZ n S P x) := hD
    obtain ⟨a, ha, rfl⟩ := okN_of (show n < 2 ^ 31 by omega) h2
    refine lv_if_eq (tgt := 33) hx hb dModel_prepare_5 (by decide) (fun h9 => absurd h9 (by decide)) (fun _ => ?_)
    refine lv_aload_n hx hb dModel_prepare_8 rfl (lv_at hl 0 rfl) ?_
    refine lv_iload_n hx hb dModel_prepare_9 rfl (lv_at hl 2 rfl) ?_
    have hPc := hP.sub (ws' := (wM qm cI cZ n S P x)) [0, 1, 2, 3, 4, 5, 6, 7, 8, 9, 10, 11, 12, 13, 14, 15, 16, 17, 18, 19, 20] rfl
    have hDc := hD.sub (ws' := (wM qm cI cZ n S P x)) [0, 1, 2, 3, 4, 5, 6, 7, 8, 9, 10, 11, 12, 13, 14, 15, 16, 17, 18, 19, 20] (by decide) rfl
    refine kx_i (va_runV (As := [.int sl]) (rest := []) ⟨hx, hb, hml, hown, hts⟩ ((m_isSlot l D cI cZ qm n S P x sl (hn1) (hn5) (hS1) (hS4) (hP5) (hP64)) H.size) (cwV 1 hts (gV wd490 wd492 sl_Model_isSlot wd7 wd493) rfl rfl rfl (by decide +kernel) ⟨Nat.le_of_ble_eq_true rfl, Nat.le_of_ble_eq_true rfl⟩) ⟨fb_PW, va_recv (q0 := 0) (ci := 5) hK hPc rfl rfl, pre_PW hK hPc hDc hZ⟩ rfl rfl hl.1 rfl (lv_room (Nat.le_of_ble_eq_true rfl)) dModel_prepare_10 ⟨Nat.zero_le _, Nat.zero_le _⟩) hP hD hS hA [0, 1, 2, 3, 4, 5, 6, 7, 8, 9, 10, 11, 12, 13, 14, 15, 16, 17, 18, 19, 20] [] rfl rfl (by decide) (by decide) (fun r w1 H locs hw hP hD hS => ?_)
    rcases hw with ⟨rfl, h10, rfl⟩ | ⟨rfl, h10, rfl⟩
    · have hP : va_P D vwCl (wM qm cI cZ n S P x) H := hP
      have hD : va_D A (wM qm cI cZ n S P x) := hD
      obtain ⟨t, ht, rfl⟩ := okN_of (show S < 2 ^ 31 by omega) h10
      refine lv_if_eq (tgt := 33) hx hb dModel_prepare_13 (by decide) (fun h9 => absurd h9 (by decide)) (fun _ => ?_)
      refine lv_iload_n hx hb dModel_prepare_16 rfl (lv_at hl 3 rfl) ?_
      refine lv_if_lt (tgt := 33) hx hb dModel_prepare_17 (by decide) (fun c17 => ?_) (fun c17 => ?_)
      · refine lv_iconst (v := (-1)) hx hb dModel_prepare_33 (by decide) ?_
        exact W.iret (v := (-1)) hx hb hr (fun t9 ht9 hW9 => ⟨⟨(-1), (wM qm cI cZ n S P x), rfl, fin3 (if_neg (fun h => absurd h.2.2.1 (Int32.not_le.mpr c17))), by rw [ht9]; exact hP, va_K.moved hW9.alike hK, hD⟩, hS.F ht9⟩) hS.2.2 dModel_prepare_34
      · refine lv_iload_n hx hb dModel_prepare_20 rfl (lv_at hl 3 rfl) ?_
        refine lv_sipush (v := nI 1000) hx hb dModel_prepare_21 (by decide) ?_
        refine lv_icmp_gt (tgt := 33) hx hb dModel_prepare_24 (by decide) (fun c24 => ?_) (fun c24 => ?_)
        · refine lv_iconst (v := (-1)) hx hb dModel_prepare_33 (by decide) ?_
          exact W.iret (v := (-1)) hx hb hr (fun t9 ht9 hW9 => ⟨⟨(-1), (wM qm cI cZ n S P x), rfl, fin3 (if_neg (fun h => absurd h.2.2.2.1 (Int32.not_le.mpr c24))), by rw [ht9]; exact hP, va_K.moved hW9.alike hK, hD⟩, hS.F ht9⟩) hS.2.2 dModel_prepare_34
        · obtain ⟨rr, hrr, rfl⟩ := wi_of (P := 1001) (by decide) (by decide) ⟨Int32.not_lt.mp c17, Int32.not_lt.mp c24⟩
          refine lv_iload hx hb dModel_prepare_27 (lv_at hl 4 rfl) ?_
          refine lv_iconst (v := nI 1) hx hb dModel_prepare_29 (by decide) ?_
          refine lv_icmp_ge (tgt := 35) hx hb dModel_prepare_30 (by decide) (fun c30 => ?_) (fun c30 => ?_)
          · have hok : okN (nI a) n ∧ okN (nI t) S ∧ 0 ≤ nI rr ∧ nI rr ≤ nI 1000 ∧ nI 1 ≤ vl := ⟨h2, h10, nI_pos' (by omega), nI_le (by omega) (by decide), c30⟩
            have hbal : nI rr * nI n + nI a = nI (rr * n + a) := by rw [pk_mul, nI_add]
            refine lv_iconst (v := nI 4) hx hb dModel_prepare_35 (by decide) ?_
            refine lv_iload_n hx hb dModel_prepare_36 rfl (lv_at hl 1 rfl) ?_
            refine lv_imul hx hb dModel_prepare_37 ?_
            refine lv_topi (nm_r ((pk_mul _ _).trans (congrArg nI (Nat.mul_comm _ _))) ?_)
            refine lv_iload_n hx hb dModel_prepare_38 rfl (lv_at hl 2 rfl) ?_
            refine lv_iadd hx hb dModel_prepare_39 ?_
            refine lv_topi (nm_r (nI_add _ _) ?_)
            refine lv_istore hx hb dModel_prepare_40 hl (by decide) rfl (fun ls hl => ?_)
            have hl : lv_has ls 7 [(5, .int (nI (a * 4 + t))), (0, .ref (qm 0)), (1, .int (nI a)), (2, .int (nI t)), (3, .int (nI rr)), (4, .int vl)] := hl
            refine lv_iload_n hx hb dModel_prepare_42 rfl (lv_at hl 4 rfl) ?_
            refine lv_aload_n hx hb dModel_prepare_43 rfl (lv_at hl 1 rfl) ?_
            refine va_get (D := D) (ci := 5) (v := .int (nI n)) (C := RModel) (T := TModel) (N := 25) hx hb hts (fun w h => mc (uModel_in w h)) hown hK hP 0 rfl rfl 0 (by decide) (hts _ (mc wd405)) (fun _ h9 => h9) rfl dModel_prepare_44 ?_
            refine lv_imul hx hb dModel_prepare_47 ?_
            refine lv_topi (nm_r (pk_mul _ _) ?_)
            refine lv_iload_n hx hb dModel_prepare_48 rfl (lv_at hl 2 rfl) ?_
            refine lv_iadd hx hb dModel_prepare_49 ?_
            refine lv_topi (nm_r (nI_add _ _) ?_)
            refine lv_istore hx hb dModel_prepare_50 hl (by decide) rfl (fun ls hl => ?_)
            have hl : lv_has ls 7 [(6, .int (nI (rr * n + a))), (5, .int (nI (a * 4 + t))), (0, .ref (qm 0)), (1, .int (nI a)), (2, .int (nI t)), (3, .int (nI rr)), (4, .int vl)] := hl
            refine lv_aload_n hx hb dModel_prepare_52 rfl (lv_at hl 2 rfl) ?_
            refine va_get (D := D) (ci := 5) (v := .ref (qm 1)) (C := RModel) (T := TModel) (N := 25) hx hb hts (fun w h => mc (uModel_in w h)) hown hK hP 0 rfl rfl 3 (by decide) (hts _ (mc wd408)) (fun _ h9 => h9) rfl dModel_prepare_53 ?_
            refine lv_iload_n hx hb dModel_prepare_56 rfl (lv_at hl 3 rfl) ?_
            refine ka_zld (v := x.1 13 a 0) hx hb hK hP 1 1 rfl rfl (by omega) (by omega) rfl dModel_prepare_57 ?_
            refine lv_if_eq (tgt := 64) hx hb dModel_prepare_58 (by decide) (fun c58 => ?_) (fun c58 => ?_)
            · refine lv_iload hx hb dModel_prepare_64 (lv_at hl 0 rfl) ?_
              refine lv_aload_n hx hb dModel_prepare_66 rfl (lv_at hl 2 rfl) ?_
              refine va_get (D := D) (ci := 5) (v := .ref (qm 9)) (C := RModel) (T := TModel) (N := 25) hx hb hts (fun w h => mc (uModel_in w h)) hown hK hP 0 rfl rfl 11 (by decide) (hts _ (mc wd416)) (fun _ h9 => h9) rfl dModel_prepare_67 ?_
              refine lv_iload hx hb dModel_prepare_70 (lv_at hl 1 rfl) ?_
              refine ka_ld (v := x.1 2 a t) hx hb hK hP 9 0 rfl rfl (by omega) (by omega) (sq_at (by omega)) dModel_prepare_72 ?_
              refine lv_icmp_gt (tgt := 79) hx hb dModel_prepare_73 (by decide) (fun c73 => ?_) (fun c73 => ?_)
              · refine lv_aload_n hx hb dModel_prepare_79 rfl (lv_at hl 2 rfl) ?_
                have hPc := hP.sub (ws' := (wM qm cI cZ n S P x)) [0, 1, 2, 3, 4, 5, 6, 7, 8, 9, 10, 11, 12, 13, 14, 15, 16, 17, 18, 19, 20] rfl
                have hDc := hD.sub (ws' := (wM qm cI cZ n S P x)) [0, 1, 2, 3, 4, 5, 6, 7, 8, 9, 10, 11, 12, 13, 14, 15, 16, 17, 18, 19, 20] (by decide) rfl
                refine kx_i (va_runV (As := []) (rest := []) ⟨hx, hb, hml, hown, hts⟩ ((m_empty l D cI cZ qm n S P x (hn1) (hn5) (hS1) (hS4) (hP5) (hP64)) H.size) (cwV 0 hts (gV wd494 wd496 sl_Model_empty wd7 wd497) rfl rfl rfl (by decide +kernel) ⟨Nat.le_of_ble_eq_true rfl, Nat.le_of_ble_eq_true rfl⟩) ⟨fb_PW, va_recv (q0 := 0) (ci := 5) hK hPc rfl rfl, pre_PW hK hPc hDc hZ⟩ rfl rfl hl.1 rfl (lv_room (Nat.le_of_ble_eq_true rfl)) dModel_prepare_80 ⟨Nat.zero_le _, Nat.zero_le _⟩) hP hD hS hA [0, 1, 2, 3, 4, 5, 6, 7, 8, 9, 10, 11, 12, 13, 14, 15, 16, 17, 18, 19, 20] [] rfl rfl (by decide) (by decide) (fun r w1 H locs hw hP hD hS => ?_)
                obtain ⟨rfl, rfl⟩ := hw
                have hP : va_P D vwCl (wM qm cI cZ n S P x) H := hP
                have hD : va_D A (wM qm cI cZ n S P x) := hD
                refine lv_aload_n hx hb dModel_prepare_83 rfl (lv_at hl 2 rfl) ?_
                refine va_get (D := D) (ci := 5) (v := .int (nI n)) (C := RModel) (T := TModel) (N := 25) hx hb hts (fun w h => mc (uModel_in w h)) hown hK hP 0 rfl rfl 0 (by decide) (hts _ (mc wd405)) (fun _ h9 => h9) rfl dModel_prepare_84 ?_
                refine lv_icmp_ge (tgt := 93) hx hb dModel_prepare_87 (by decide) (fun c87 => ?_) (fun c87 => ?_)
                · have hfl : ¬ P - cntx P x < n := fun q => absurd c87 (nI_ge q (by omega))
                  refine lv_aload_n hx hb dModel_prepare_93 rfl (lv_at hl 2 rfl) ?_
                  refine va_get (D := D) (ci := 5) (v := .ref (qm 9)) (C := RModel) (T := TModel) (N := 25) hx hb hts (fun w h => mc (uModel_in w h)) hown hK hP 0 rfl rfl 11 (by decide) (hts _ (mc wd416)) (fun _ h9 => h9) rfl dModel_prepare_94 ?_
                  refine lv_iload hx hb dModel_prepare_97 (lv_at hl 1 rfl) ?_
                  refine lv_iload hx hb dModel_prepare_99 (lv_at hl 0 rfl) ?_
                  refine ka_st (f' := sq 4 (up2 (x.1 2) a t (nI (rr * n + a)))) hx hb hK hP hD hS 9 0 rfl rfl (by omega) (by omega) (sq_up (by omega)) dModel_prepare_101 (fun H locs hP hD hS => ?_)
                  have hP : va_P D vwCl (wR qm cI cZ n S P (col (x.1 13) 0) (col (x.1 0) 0) (col (x.1 0) 1) (col (x.1 0) 2) (col (x.1 0) 3) (col (x.1 0) 4) (col (x.1 0) 5) (col (x.1 0) 6) (sq 4 (up2 (x.1 2) a t (nI (rr * n + a)))) (sq 4 (x.1 1)) (sq 4 (x.1 6)) (sq 4 (x.1 3)) (sq 4 (x.1 4)) (sq 4 (x.1 7)) (sq 4 (x.1 8)) (sq 4 (x.1 9)) (sq 4 (x.1 10)) (hrm (x.2 0)) (hrm (x.2 1)) (sq 4 (x.1 11)) (x.1 12 0 0) (x.1 12 0 1)) H := hP
                  have hD : va_D A (wR qm cI cZ n S P (col (x.1 13) 0) (col (x.1 0) 0) (col (x.1 0) 1) (col (x.1 0) 2) (col (x.1 0) 3) (col (x.1 0) 4) (col (x.1 0) 5) (col (x.1 0) 6) (sq 4 (up2 (x.1 2) a t (nI (rr * n + a)))) (sq 4 (x.1 1)) (sq 4 (x.1 6)) (sq 4 (x.1 3)) (sq 4 (x.1 4)) (sq 4 (x.1 7)) (sq 4 (x.1 8)) (sq 4 (x.1 9)) (sq 4 (x.1 10)) (hrm (x.2 0)) (hrm (x.2 1)) (sq 4 (x.1 11)) (x.1 12 0 0) (x.1 12 0 1)) := hD
                  refine lv_aload_n hx hb dModel_prepare_102 rfl (lv_at hl 2 rfl) ?_
                  refine va_get (D := D) (ci := 5) (v := .ref (qm 10)) (C := RModel) (T := TModel) (N := 25) hx hb hts (fun w h => mc (uModel_in w h)) hown hK hP 0 rfl rfl 12 (by decide) (hts _ (mc wd417)) (fun _ h9 => h9) rfl dModel_prepare_103 ?_
                  refine lv_iload hx hb dModel_prepare_106 (lv_at hl 1 rfl) ?_
                  refine lv_iconst (v := nI 1) hx hb dModel_prepare_108 (by decide) ?_
                  refine ka_st (f' := sq 4 (up2 (x.1 1) a t (nI 1))) hx hb hK hP hD hS 10 0 rfl rfl (by omega) (by omega) (sq_up (by omega)) dModel_prepare_109 (fun H locs hP hD hS => ?_)
                  have hP : va_P D vwCl (wR qm cI cZ n S P (col (x.1 13) 0) (col (x.1 0) 0) (col (x.1 0) 1) (col (x.1 0) 2) (col (x.1 0) 3) (col (x.1 0) 4) (col (x.1 0) 5) (col (x.1 0) 6) (sq 4 (up2 (x.1 2) a t (nI (rr * n + a)))) (sq 4 (up2 (x.1 1) a t (nI 1))) (sq 4 (x.1 6)) (sq 4 (x.1 3)) (sq 4 (x.1 4)) (sq 4 (x.1 7)) (sq 4 (x.1 8)) (sq 4 (x.1 9)) (sq 4 (x.1 10)) (hrm (x.2 0)) (hrm (x.2 1)) (sq 4 (x.1 11)) (x.1 12 0 0) (x.1 12 0 1)) H := hP
                  have hD : va_D A (wR qm cI cZ n S P (col (x.1 13) 0) (col (x.1 0) 0) (col (x.1 0) 1) (col (x.1 0) 2) (col (x.1 0) 3) (col (x.1 0) 4) (col (x.1 0) 5) (col (x.1 0) 6) (sq 4 (up2 (x.1 2) a t (nI (rr * n + a)))) (sq 4 (up2 (x.1 1) a t (nI 1))) (sq 4 (x.1 6)) (sq 4 (x.1 3)) (sq 4 (x.1 4)) (sq 4 (x.1 7)) (sq 4 (x.1 8)) (sq 4 (x.1 9)) (sq 4 (x.1 10)) (hrm (x.2 0)) (hrm (x.2 1)) (sq 4 (x.1 11)) (x.1 12 0 0) (x.1 12 0 1)) := hD
                  refine lv_aload_n hx hb dModel_prepare_110 rfl (lv_at hl 2 rfl) ?_
                  refine va_get (D := D) (ci := 5) (v := .ref (qm 11)) (C := RModel) (T := TModel) (N := 25) hx hb hts (fun w h => mc (uModel_in w h)) hown hK hP 0 rfl rfl 13 (by decide) (hts _ (mc wd418)) (fun _ h9 => h9) rfl dModel_prepare_111 ?_
                  refine lv_iload hx hb dModel_prepare_114 (lv_at hl 1 rfl) ?_
                  refine lv_iload hx hb dModel_prepare_116 (lv_at hl 6 rfl) ?_
                  refine ka_st (f' := sq 4 (up2 (x.1 6) a t vl)) hx hb hK hP hD hS 11 0 rfl rfl (by omega) (by omega) (sq_up (by omega)) dModel_prepare_118 (fun H locs hP hD hS => ?_)
                  have hP : va_P D vwCl (wR qm cI cZ n S P (col (x.1 13) 0) (col (x.1 0) 0) (col (x.1 0) 1) (col (x.1 0) 2) (col (x.1 0) 3) (col (x.1 0) 4) (col (x.1 0) 5) (col (x.1 0) 6) (sq 4 (up2 (x.1 2) a t (nI (rr * n + a)))) (sq 4 (up2 (x.1 1) a t (nI 1))) (sq 4 (up2 (x.1 6) a t vl)) (sq 4 (x.1 3)) (sq 4 (x.1 4)) (sq 4 (x.1 7)) (sq 4 (x.1 8)) (sq 4 (x.1 9)) (sq 4 (x.1 10)) (hrm (x.2 0)) (hrm (x.2 1)) (sq 4 (x.1 11)) (x.1 12 0 0) (x.1 12 0 1)) H := hP
                  have hD : va_D A (wR qm cI cZ n S P (col (x.1 13) 0) (col (x.1 0) 0) (col (x.1 0) 1) (col (x.1 0) 2) (col (x.1 0) 3) (col (x.1 0) 4) (col (x.1 0) 5) (col (x.1 0) 6) (sq 4 (up2 (x.1 2) a t (nI (rr * n + a)))) (sq 4 (up2 (x.1 1) a t (nI 1))) (sq 4 (up2 (x.1 6) a t vl)) (sq 4 (x.1 3)) (sq 4 (x.1 4)) (sq 4 (x.1 7)) (sq 4 (x.1 8)) (sq 4 (x.1 9)) (sq 4 (x.1 10)) (hrm (x.2 0)) (hrm (x.2 1)) (sq 4 (x.1 11)) (x.1 12 0 0) (x.1 12 0 1)) := hD
                  refine lv_aload_n hx hb dModel_prepare_119 rfl (lv_at hl 2 rfl) ?_
                  refine va_get (D := D) (ci := 5) (v := .ref (qm 12)) (C := RModel) (T := TModel) (N := 25) hx hb hts (fun w h => mc (uModel_in w h)) hown hK hP 0 rfl rfl 14 (by decide) (hts _ (mc wd419)) (fun _ h9 => h9) rfl dModel_prepare_120 ?_
                  refine lv_iload hx hb dModel_prepare_123 (lv_at hl 1 rfl) ?_
                  refine lv_iconst (v := nI 0) hx hb dModel_prepare_125 (by decide) ?_
                  refine ka_st (f' := sq 4 (up2 (x.1 3) a t (nI 0))) hx hb hK hP hD hS 12 0 rfl rfl (by omega) (by omega) (sq_up (by omega)) dModel_prepare_126 (fun H locs hP hD hS => ?_)
                  have hP : va_P D vwCl (wR qm cI cZ n S P (col (x.1 13) 0) (col (x.1 0) 0) (col (x.1 0) 1) (col (x.1 0) 2) (col (x.1 0) 3) (col (x.1 0) 4) (col (x.1 0) 5) (col (x.1 0) 6) (sq 4 (up2 (x.1 2) a t (nI (rr * n + a)))) (sq 4 (up2 (x.1 1) a t (nI 1))) (sq 4 (up2 (x.1 6) a t vl)) (sq 4 (up2 (x.1 3) a t (nI 0))) (sq 4 (x.1 4)) (sq 4 (x.1 7)) (sq 4 (x.1 8)) (sq 4 (x.1 9)) (sq 4 (x.1 10)) (hrm (x.2 0)) (hrm (x.2 1)) (sq 4 (x.1 11)) (x.1 12 0 0) (x.1 12 0 1)) H := hP
                  have hD : va_D A (wR qm cI cZ n S P (col (x.1 13) 0) (col (x.1 0) 0) (col (x.1 0) 1) (col (x.1 0) 2) (col (x.1 0) 3) (col (x.1 0) 4) (col (x.1 0) 5) (col (x.1 0) 6) (sq 4 (up2 (x.1 2) a t (nI (rr * n + a)))) (sq 4 (up2 (x.1 1) a t (nI 1))) (sq 4 (up2 (x.1 6) a t vl)) (sq 4 (up2 (x.1 3) a t (nI 0))) (sq 4 (x.1 4)) (sq 4 (x.1 7)) (sq 4 (x.1 8)) (sq 4 (x.1 9)) (sq 4 (x.1 10)) (hrm (x.2 0)) (hrm (x.2 1)) (sq 4 (x.1 11)) (x.1 12 0 0) (x.1 12 0 1)) := hD
                  refine lv_aload_n hx hb dModel_prepare_127 rfl (lv_at hl 2 rfl) ?_
                  refine va_get (D := D) (ci := 5) (v := .ref (qm 13)) (C := RModel) (T := TModel) (N := 25) hx hb hts (fun w h => mc (uModel_in w h)) hown hK hP 0 rfl rfl 15 (by decide) (hts _ (mc wd420)) (fun _ h9 => h9) rfl dModel_prepare_128 ?_
                  refine lv_iload hx hb dModel_prepare_131 (lv_at hl 1 rfl) ?_
                  refine lv_iconst (v := (-1)) hx hb dModel_prepare_133 (by decide) ?_
                  refine ka_st (f' := sq 4 (up2 (x.1 4) a t (-1))) hx hb hK hP hD hS 13 0 rfl rfl (by omega) (by omega) (sq_up (by omega)) dModel_prepare_134 (fun H locs hP hD hS => ?_)
                  have hP : va_P D vwCl (wR qm cI cZ n S P (col (x.1 13) 0) (col (x.1 0) 0) (col (x.1 0) 1) (col (x.1 0) 2) (col (x.1 0) 3) (col (x.1 0) 4) (col (x.1 0) 5) (col (x.1 0) 6) (sq 4 (up2 (x.1 2) a t (nI (rr * n + a)))) (sq 4 (up2 (x.1 1) a t (nI 1))) (sq 4 (up2 (x.1 6) a t vl)) (sq 4 (up2 (x.1 3) a t (nI 0))) (sq 4 (up2 (x.1 4) a t (-1))) (sq 4 (x.1 7)) (sq 4 (x.1 8)) (sq 4 (x.1 9)) (sq 4 (x.1 10)) (hrm (x.2 0)) (hrm (x.2 1)) (sq 4 (x.1 11)) (x.1 12 0 0) (x.1 12 0 1)) H := hP
                  have hD : va_D A (wR qm cI cZ n S P (col (x.1 13) 0) (col (x.1 0) 0) (col (x.1 0) 1) (col (x.1 0) 2) (col (x.1 0) 3) (col (x.1 0) 4) (col (x.1 0) 5) (col (x.1 0) 6) (sq 4 (up2 (x.1 2) a t (nI (rr * n + a)))) (sq 4 (up2 (x.1 1) a t (nI 1))) (sq 4 (up2 (x.1 6) a t vl)) (sq 4 (up2 (x.1 3) a t (nI 0))) (sq 4 (up2 (x.1 4) a t (-1))) (sq 4 (x.1 7)) (sq 4 (x.1 8)) (sq 4 (x.1 9)) (sq 4 (x.1 10)) (hrm (x.2 0)) (hrm (x.2 1)) (sq 4 (x.1 11)) (x.1 12 0 0) (x.1 12 0 1)) := hD
                  refine lv_aload_n hx hb dModel_prepare_135 rfl (lv_at hl 2 rfl) ?_
                  refine va_get (D := D) (ci := 5) (v := .ref (qm 14)) (C := RModel) (T := TModel) (N := 25) hx hb hts (fun w h => mc (uModel_in w h)) hown hK hP 0 rfl rfl 16 (by decide) (hts _ (mc wd421)) (fun _ h9 => h9) rfl dModel_prepare_136 ?_
                  refine lv_iload hx hb dModel_prepare_139 (lv_at hl 1 rfl) ?_
                  refine lv_iconst (v := nI 0) hx hb dModel_prepare_141 (by decide) ?_
                  refine ka_st (f' := sq 4 (up2 (x.1 7) a t (nI 0))) hx hb hK hP hD hS 14 0 rfl rfl (by omega) (by omega) (sq_up (by omega)) dModel_prepare_142 (fun H locs hP hD hS => ?_)
                  have hP : va_P D vwCl (wR qm cI cZ n S P (col (x.1 13) 0) (col (x.1 0) 0) (col (x.1 0) 1) (col (x.1 0) 2) (col (x.1 0) 3) (col (x.1 0) 4) (col (x.1 0) 5) (col (x.1 0) 6) (sq 4 (up2 (x.1 2) a t (nI (rr * n + a)))) (sq 4 (up2 (x.1 1) a t (nI 1))) (sq 4 (up2 (x.1 6) a t vl)) (sq 4 (up2 (x.1 3) a t (nI 0))) (sq 4 (up2 (x.1 4) a t (-1))) (sq 4 (up2 (x.1 7) a t (nI 0))) (sq 4 (x.1 8)) (sq 4 (x.1 9)) (sq 4 (x.1 10)) (hrm (x.2 0)) (hrm (x.2 1)) (sq 4 (x.1 11)) (x.1 12 0 0) (x.1 12 0 1)) H := hP
                  have hD : va_D A (wR qm cI cZ n S P (col (x.1 13) 0) (col (x.1 0) 0) (col (x.1 0) 1) (col (x.1 0) 2) (col (x.1 0) 3) (col (x.1 0) 4) (col (x.1 0) 5) (col (x.1 0) 6) (sq 4 (up2 (x.1 2) a t (nI (rr * n + a)))) (sq 4 (up2 (x.1 1) a t (nI 1))) (sq 4 (up2 (x.1 6) a t vl)) (sq 4 (up2 (x.1 3) a t (nI 0))) (sq 4 (up2 (x.1 4) a t (-1))) (sq 4 (up2 (x.1 7) a t (nI 0))) (sq 4 (x.1 8)) (sq 4 (x.1 9)) (sq 4 (x.1 10)) (hrm (x.2 0)) (hrm (x.2 1)) (sq 4 (x.1 11)) (x.1 12 0 0) (x.1 12 0 1)) := hD
                  have hW1 : (wR qm cI cZ n S P (col (x.1 13) 0) (col (x.1 0) 0) (col (x.1 0) 1) (col (x.1 0) 2) (col (x.1 0) 3) (col (x.1 0) 4) (col (x.1 0) 5) (col (x.1 0) 6) (sq 4 (up2 (x.1 2) a t (nI (rr * n + a)))) (sq 4 (up2 (x.1 1) a t (nI 1))) (sq 4 (up2 (x.1 6) a t vl)) (sq 4 (up2 (x.1 3) a t (nI 0))) (sq 4 (up2 (x.1 4) a t (-1))) (sq 4 (up2 (x.1 7) a t (nI 0))) (sq 4 (x.1 8)) (sq 4 (x.1 9)) (sq 4 (x.1 10)) (hrm (x.2 0)) (hrm (x.2 1)) (sq 4 (x.1 11)) (x.1 12 0 0) (x.1 12 0 1)) = (wM qm cI cZ n S P (sBegin x a t (nI (rr * n + a)) vl)) := rfl
                  rw [hW1] at hP hD
                  refine lv_aload_n hx hb dModel_prepare_143 rfl (lv_at hl 2 rfl) ?_
                  refine lv_iconst (v := nI 1) hx hb dModel_prepare_144 (by decide) ?_
                  refine lv_iload_n hx hb dModel_prepare_145 rfl (lv_at hl 3 rfl) ?_
                  refine lv_iload_n hx hb dModel_prepare_146 rfl (lv_at hl 4 rfl) ?_
                  refine lv_iload hx hb dModel_prepare_147 (lv_at hl 0 rfl) ?_
                  refine lv_iconst (v := nI 0) hx hb dModel_prepare_149 (by decide) ?_
                  have hPc := hP.sub (ws' := (wM qm cI cZ n S P (sBegin x a t (nI (rr * n + a)) vl))) [0, 1, 2, 3, 4, 5, 6, 7, 8, 9, 10, 11, 12, 13, 14, 15, 16, 17, 18, 19, 20] rfl
                  have hDc := hD.sub (ws' := (wM qm cI cZ n S P (sBegin x a t (nI (rr * n + a)) vl))) [0, 1, 2, 3, 4, 5, 6, 7, 8, 9, 10, 11, 12, 13, 14, 15, 16, 17, 18, 19, 20] (by decide) rfl
                  refine kx_v (va_runV (As := [.int (nI 1), .int (nI a), .int (nI t), .int (nI (rr * n + a)), .int (nI 0)]) (rest := []) ⟨hx, hb, hml, hown, hts⟩ ((m_sendAll l D cI cZ qm n S P (sBegin x a t (nI (rr * n + a)) vl) (nI 1) (nI a) (nI t) (nI (rr * n + a)) (nI 0) (hn1) (hn5) (hS1) (hS4) (hP5) (hP64) (Imsg_c rfl hIn.1) (fun j hj => ⟨1, a, j, t, by decide, by decide, ha, hj, ht, rfl, rfl, rfl, rfl, by decide⟩) (by have h7 : cntx P x ≤ P := cnt_le _ _; show cntx P x + n ≤ P; omega)) H.size) (cwV 5 hts (gV wd498 wd500 sl_Model_sendAll wd7 wd501) rfl rfl rfl (by decide +kernel) ⟨Nat.le_of_ble_eq_true rfl, Nat.le_of_ble_eq_true rfl⟩) ⟨fb_PW, va_recv (q0 := 0) (ci := 5) hK hPc rfl rfl, pre_PW hK hPc hDc hZ⟩ rfl rfl hl.1 rfl (lv_room (Nat.le_of_ble_eq_true rfl)) dModel_prepare_150 ⟨Nat.zero_le _, Nat.zero_le _⟩) hP hD hS hA [0, 1, 2, 3, 4, 5, 6, 7, 8, 9, 10, 11, 12, 13, 14, 15, 16, 17, 18, 19, 20] [] rfl rfl (by decide) (by decide) (fun w1 H locs hw hP hD hS => ?_)
                  obtain rfl := hw
                  have hP : va_P D vwCl (wM qm cI cZ n S P (sendA P (sBegin x a t (nI (rr * n + a)) vl) (nI 1) (nI a) (nI t) (nI (rr * n + a)) (nI 0) n)) H := hP
                  have hD : va_D A (wM qm cI cZ n S P (sendA P (sBegin x a t (nI (rr * n + a)) vl) (nI 1) (nI a) (nI t) (nI (rr * n + a)) (nI 0) n)) := hD
                  refine lv_iload hx hb dModel_prepare_153 (lv_at hl 0 rfl) ?_
                  exact W.iret (v := nI (rr * n + a)) hx hb hr (fun t9 ht9 hW9 => ⟨⟨nI (rr * n + a), (wM qm cI cZ n S P (sendA P (sBegin x a t (nI (rr * n + a)) vl) (nI 1) (nI a) (nI t) (nI (rr * n + a)) (nI 0) n)), rfl, fin3 (by unfold sPrep; rw [if_pos hok, ix_nI ha (by omega), ix_nI ht (by omega), if_neg (fun q => q c58), hbal, if_neg (Int32.not_le.mpr c73), if_neg hfl]; try rfl), by rw [ht9]; exact hP, va_K.moved hW9.alike hK, hD⟩, hS.F ht9⟩) hS.2.2 dModel_prepare_155
                · have hfl : P - cntx P x < n := Nat.lt_of_not_le (fun q => c87 (nI_le q (by omega)))
                  refine lv_bipush (v := (-4)) hx hb dModel_prepare_90 (by decide) ?_
                  exact W.iret (v := (-4)) hx hb hr (fun t9 ht9 hW9 => ⟨⟨(-4), (wM qm cI cZ n S P x), rfl, fin3 (by unfold sPrep; rw [if_pos hok, ix_nI ha (by omega), ix_nI ht (by omega), if_neg (fun q => q c58), hbal, if_neg (Int32.not_le.mpr c73), if_pos hfl]; try rfl), by rw [ht9]; exact hP, va_K.moved hW9.alike hK, hD⟩, hS.F ht9⟩) hS.2.2 dModel_prepare_92
              · refine lv_bipush (v := (-3)) hx hb dModel_prepare_76 (by decide) ?_
                exact W.iret (v := (-3)) hx hb hr (fun t9 ht9 hW9 => ⟨⟨(-3), (wM qm cI cZ n S P x), rfl, fin3 (by unfold sPrep; rw [if_pos hok, ix_nI ha (by omega), ix_nI ht (by omega), if_neg (fun q => q c58), hbal, if_pos (Int32.not_lt.mp c73)]; try rfl), by rw [ht9]; exact hP, va_K.moved hW9.alike hK, hD⟩, hS.F ht9⟩) hS.2.2 dModel_prepare_78
            · refine lv_bipush (v := (-2)) hx hb dModel_prepare_61 (by decide) ?_
              exact W.iret (v := (-2)) hx hb hr (fun t9 ht9 hW9 => ⟨⟨(-2), (wM qm cI cZ n S P x), rfl, fin3 (by unfold sPrep; rw [if_pos hok, ix_nI ha (by omega), ix_nI ht (by omega), if_pos c58]; try rfl), by rw [ht9]; exact hP, va_K.moved hW9.alike hK, hD⟩, hS.F ht9⟩) hS.2.2 dModel_prepare_63
          · refine lv_iconst (v := (-1)) hx hb dModel_prepare_33 (by decide) ?_
            exact W.iret (v := (-1)) hx hb hr (fun t9 ht9 hW9 => ⟨⟨(-1), (wM qm cI cZ n S P x), rfl, fin3 (if_neg (fun h => c30 h.2.2.2.2)), by rw [ht9]; exact hP, va_K.moved hW9.alike hK, hD⟩, hS.F ht9⟩) hS.2.2 dModel_prepare_34
    · have hP : va_P D vwCl (wM qm cI cZ n S P x) H := hP
      have hD : va_D A (wM qm cI cZ n S P x) := hD
      refine lv_if_eq (tgt := 33) hx hb dModel_prepare_13 (by decide) (fun _ => ?_) (fun h9 => absurd (by decide) h9)
      refine lv_iconst (v := (-1)) hx hb dModel_prepare_33 (by decide) ?_
      exact W.iret (v := (-1)) hx hb hr (fun t9 ht9 hW9 => ⟨⟨(-1), (wM qm cI cZ n S P x), rfl, fin3 (if_neg (fun h => h10 h.2.1)), by rw [ht9]; exact hP, va_K.moved hW9.alike hK, hD⟩, hS.F ht9⟩) hS.2.2 dModel_prepare_34
  · have hP : va_P D vwCl (wM qm cI cZ n S P x) H := hP
    have hD : va_D A (wM qm cI cZ n S P x) := hD
    refine lv_if_eq (tgt := 33) hx hb dModel_prepare_5 (by decide) (fun _ => ?_) (fun h9 => absurd (by decide) h9)
    refine lv_iconst (v := (-1)) hx hb dModel_prepare_33 (by decide) ?_
    exact W.iret (v := (-1)) hx hb hr (fun t9 ht9 hW9 => ⟨⟨(-1), (wM qm cI cZ n S P x), rfl, fin3 (if_neg (fun h => h2 h.1)), by rw [ht9]; exact hP, va_K.moved hW9.alike hK, hD⟩, hS.F ht9⟩) hS.2.2 dModel_prepare_34
theorem dModel_sends_0 : decode cModel_sends 0 = .ok (.iconst 4, 1) := by decide +kernel
theorem dModel_sends_1 : decode cModel_sends 1 = .ok (.aload_n 0, 1) := by decide +kernel
theorem dModel_sends_2 : decode cModel_sends 2 = .ok (.getfield 20, 3) := by decide +kernel
theorem dModel_sends_5 : decode cModel_sends 5 = .ok (.iload_n 1, 1) := by decide +kernel
theorem dModel_sends_6 : decode cModel_sends 6 = .ok (.iaload, 1) := by decide +kernel
theorem dModel_sends_7 : decode cModel_sends 7 = .ok (.imul, 1) := by decide +kernel
theorem dModel_sends_8 : decode cModel_sends 8 = .ok (.aload_n 0, 1) := by decide +kernel
theorem dModel_sends_9 : decode cModel_sends 9 = .ok (.getfield 23, 3) := by decide +kernel
theorem dModel_sends_12 : decode cModel_sends 12 = .ok (.iload_n 1, 1) := by decide +kernel
theorem dModel_sends_13 : decode cModel_sends 13 = .ok (.iaload, 1) := by decide +kernel
theorem dModel_sends_14 : decode cModel_sends 14 = .ok (.iadd, 1) := by decide +kernel
theorem dModel_sends_15 : decode cModel_sends 15 = .ok (.istore_n 2, 1) := by decide +kernel
theorem dModel_sends_16 : decode cModel_sends 16 = .ok (.aload_n 0, 1) := by decide +kernel
theorem dModel_sends_17 : decode cModel_sends 17 = .ok (.getfield 13, 3) := by decide +kernel
theorem dModel_sends_20 : decode cModel_sends 20 = .ok (.iload_n 1, 1) := by decide +kernel
theorem dModel_sends_21 : decode cModel_sends 21 = .ok (.iaload, 1) := by decide +kernel
theorem dModel_sends_22 : decode cModel_sends 22 = .ok (.tableswitch 103 1 3 #[26, 47, 79], 26) := by decide +kernel
theorem dModel_sends_48 : decode cModel_sends 48 = .ok (.aload_n 0, 1) := by decide +kernel
theorem dModel_sends_49 : decode cModel_sends 49 = .ok (.getfield 26, 3) := by decide +kernel
theorem dModel_sends_52 : decode cModel_sends 52 = .ok (.iload_n 1, 1) := by decide +kernel
theorem dModel_sends_53 : decode cModel_sends 53 = .ok (.iaload, 1) := by decide +kernel
theorem dModel_sends_54 : decode cModel_sends 54 = .ok (.aload_n 0, 1) := by decide +kernel
theorem dModel_sends_55 : decode cModel_sends 55 = .ok (.getfield 53, 3) := by decide +kernel
theorem dModel_sends_58 : decode cModel_sends 58 = .ok (.iload_n 2, 1) := by decide +kernel
theorem dModel_sends_59 : decode cModel_sends 59 = .ok (.iaload, 1) := by decide +kernel
theorem dModel_sends_60 : decode cModel_sends 60 = .ok (.if_icmp .le 7, 3) := by decide +kernel
theorem dModel_sends_63 : decode cModel_sends 63 = .ok (.iconst 1, 1) := by decide +kernel
theorem dModel_sends_64 : decode cModel_sends 64 = .ok (.goto 4, 3) := by decide +kernel
theorem dModel_sends_67 : decode cModel_sends 67 = .ok (.iconst 0, 1) := by decide +kernel
theorem dModel_sends_68 : decode cModel_sends 68 = .ok (.ireturn, 1) := by decide +kernel
theorem dModel_sends_69 : decode cModel_sends 69 = .ok (.aload_n 0, 1) := by decide +kernel
theorem dModel_sends_70 : decode cModel_sends 70 = .ok (.iload_n 1, 1) := by decide +kernel
theorem dModel_sends_71 : decode cModel_sends 71 = .ok (.invokevirtual 100, 3) := by decide +kernel
theorem dModel_sends_74 : decode cModel_sends 74 = .ok (.ifCond .eq 25, 3) := by decide +kernel
theorem dModel_sends_77 : decode cModel_sends 77 = .ok (.aload_n 0, 1) := by decide +kernel
theorem dModel_sends_78 : decode cModel_sends 78 = .ok (.aload_n 0, 1) := by decide +kernel
theorem dModel_sends_79 : decode cModel_sends 79 = .ok (.iload_n 1, 1) := by decide +kernel
theorem dModel_sends_80 : decode cModel_sends 80 = .ok (.invokevirtual 103, 3) := by decide +kernel
theorem dModel_sends_83 : decode cModel_sends 83 = .ok (.invokestatic 107, 3) := by decide +kernel
theorem dModel_sends_86 : decode cModel_sends 86 = .ok (.invokevirtual 110, 3) := by decide +kernel
theorem dModel_sends_89 : decode cModel_sends 89 = .ok (.ifCond .eq 10, 3) := by decide +kernel
theorem dModel_sends_92 : decode cModel_sends 92 = .ok (.aload_n 0, 1) := by decide +kernel
theorem dModel_sends_93 : decode cModel_sends 93 = .ok (.getfield 71, 3) := by decide +kernel
theorem dModel_sends_96 : decode cModel_sends 96 = .ok (.goto 4, 3) := by decide +kernel
theorem dModel_sends_99 : decode cModel_sends 99 = .ok (.iconst 0, 1) := by decide +kernel
theorem dModel_sends_100 : decode cModel_sends 100 = .ok (.ireturn, 1) := by decide +kernel
theorem dModel_sends_101 : decode cModel_sends 101 = .ok (.aload_n 0, 1) := by decide +kernel
theorem dModel_sends_102 : decode cModel_sends 102 = .ok (.getfield 26, 3) := by decide +kernel
theorem dModel_sends_105 : decode cModel_sends 105 = .ok (.iload_n 1, 1) := by decide +kernel
theorem dModel_sends_106 : decode cModel_sends 106 = .ok (.iaload, 1) := by decide +kernel
theorem dModel_sends_107 : decode cModel_sends 107 = .ok (.aload_n 0, 1) := by decide +kernel
theorem dModel_sends_108 : decode cModel_sends 108 = .ok (.getfield 53, 3) := by decide +kernel
theorem dModel_sends_111 : decode cModel_sends 111 = .ok (.iload_n 2, 1) := by decide +kernel
theorem dModel_sends_112 : decode cModel_sends 112 = .ok (.iaload, 1) := by decide +kernel
theorem dModel_sends_113 : decode cModel_sends 113 = .ok (.if_icmp .lt 10, 3) := by decide +kernel
theorem dModel_sends_116 : decode cModel_sends 116 = .ok (.aload_n 0, 1) := by decide +kernel
theorem dModel_sends_117 : decode cModel_sends 117 = .ok (.getfield 71, 3) := by decide +kernel
theorem dModel_sends_120 : decode cModel_sends 120 = .ok (.goto 4, 3) := by decide +kernel
theorem dModel_sends_123 : decode cModel_sends 123 = .ok (.iconst 0, 1) := by decide +kernel
theorem dModel_sends_124 : decode cModel_sends 124 = .ok (.ireturn, 1) := by decide +kernel
theorem dModel_sends_125 : decode cModel_sends 125 = .ok (.iconst 0, 1) := by decide +kernel
theorem dModel_sends_126 : decode cModel_sends 126 = .ok (.ireturn, 1) := by decide +kernel
set_option maxRecDepth 100000 in
set_option maxHeartbeats 4000000 in
theorem m_sends (l : Launch) (D : va_G) (cI cZ : ClassId) (qm : Nat → Nat) (n : Nat) (S : Nat) (P : Nat) (x : St) (j : Nat) (a : Nat) (t : Nat) (b : Nat) (hn1 : 1 ≤ n) (hn5 : n ≤ 5) (hS1 : 1 ≤ S) (hS4 : S ≤ 4) (hP5 : 5 ≤ P) (hP64 : P ≤ 64) (hj : j < 64) (ha : a < n) (ht : t < S) (hbn : b < n) (hrc : x.1 0 j 2 = nI a) (hsl : x.1 0 j 3 = nI t) (hsd : x.1 0 j 1 = nI b) (hI : Ibit x) : MI l D [(cI, .int), (cZ, .boolean)] yModel_sends wsModel_sends ({ frames := 1, cells := 0, slots := 0, locals := 22 }) [.ref (qm 0), .int (nI j)] (wM qm cI cZ n S P x) (fun r w => (r = nI n ∧ (sAll n x j) ∧ w = (wM qm cI cZ n S P x)) ∨ (∃ ks9 : Nat, r = nI ks9 ∧ (¬ sAll n x j ∧ ks9 ≤ 1) ∧ w = (wM qm cI cZ n S P x))) := by
  intro sz
  obtain ⟨e1, he1, he2⟩ := hI.1 a t
  have hE := orb_fin e1 he1 b (by omega)
  have hpo : ix (orb (x.1 3 a t) (nI b)) = e1 ||| 2 ^ b := by
    rw [he2, hE.1]
    exact ix_nI hE.2 (by omega)
  have iA : ix (x.1 0 j 2) = a := by rw [hrc]; exact ix_nI ha (by omega)
  have iT : ix (x.1 0 j 3) = t := by rw [hsl]; exact ix_nI ht (by omega)
  have iB : ix (x.1 0 j 1) = b := by rw [hsd]; exact ix_nI hbn (by omega)
  have hall : sAll n x j ↔ ((x.1 0 j 0 = nI 2 ∧ ((x.1 1 a t = nI 1 ∧ x.1 2 a t = x.1 0 j 4) ∧ n < 2 * popn (ix (orb (x.1 3 a t) (nI b))))) ∨ (x.1 0 j 0 = nI 3 ∧ x.1 8 a t ≤ x.1 0 j 4)) := by
    unfold sAll sWins
    rw [iA, iT, hsd]
  refine Met.ofW (cc := cModel_sends) (maxL := 3) (ret := (Option.some .int)) (by decide) rfl ?_
  intro p e s m args below meth c s₁ B hml hv
  obtain ⟨rfl, hsz, hP, hK, hD0, hZ⟩ := hv
  have hx := B.exec
  have hb := B.bytes
  have hr := B.returns
  have hts := atoms_spec (ws := wsModel_sends) B.pre
  have hown : s.vm.findClass RModel = some m.cls := findClass_of_methodNamed B.named
  have hlocks := B.notSynchronized
  subst hsz
  have hD := hD0.self (sz := s.heap.size)
  generalize hAe : va_A (wM qm cI cZ n S P x) s.heap.size = A at hD ⊢
  have hA : ∀ q : Nat, s.heap.size ≤ q → A q := fun q h => by rw [← hAe]; exact Or.inr h
  have hS : va_S A s.heap s.heap [] := va_S.rf
  have hP : va_P D vwCl (wM qm cI cZ n S P x) s.heap := hP
  have hl := lv_entry ([.ref (qm 0), .int (nI j)]) (n := 3) (Nat.le_of_ble_eq_true rfl)
  rw [lg_entry_eq]
  generalize (lg_sl ([.ref (qm 0), .int (nI j)]) ++ List.replicate (3 - (lg_sl ([.ref (qm 0), .int (nI j)])).length) Slot.unset).toArray = ls at hl ⊢
  have hl : lv_has ls 3 [(0, .ref (qm 0)), (1, .int (nI j))] := hl
  refine lv_iconst (v := nI 4) hx hb dModel_sends_0 (by decide) ?_
  refine lv_aload_n hx hb dModel_sends_1 rfl (lv_at hl 0 rfl) ?_
  refine va_get (D := D) (ci := 5) (v := .ref (qm 4)) (C := RModel) (T := TModel) (N := 25) hx hb hts (fun w h => mc (uModel_in w h)) hown hK hP 0 rfl rfl 6 (by decide) (hts _ (mc wd411)) (fun _ h9 => h9) rfl dModel_sends_2 ?_
  refine lv_iload_n hx hb dModel_sends_5 rfl (lv_at hl 1 rfl) ?_
  refine ka_ld (v := nI a) hx hb hK hP 4 0 rfl rfl (by omega) (by omega) hrc dModel_sends_6 ?_
  refine lv_imul hx hb dModel_sends_7 ?_
  refine lv_topi (nm_r ((pk_mul _ _).trans (congrArg nI (Nat.mul_comm _ _))) ?_)
  refine lv_aload_n hx hb dModel_sends_8 rfl (lv_at hl 0 rfl) ?_
  refine va_get (D := D) (ci := 5) (v := .ref (qm 5)) (C := RModel) (T := TModel) (N := 25) hx hb hts (fun w h => mc (uModel_in w h)) hown hK hP 0 rfl rfl 7 (by decide) (hts _ (mc wd412)) (fun _ h9 => h9) rfl dModel_sends_9 ?_
  refine lv_iload_n hx hb dModel_sends_12 rfl (lv_at hl 1 rfl) ?_
  refine ka_ld (v := nI t) hx hb hK hP 5 0 rfl rfl (by omega) (by omega) hsl dModel_sends_13 ?_
  refine lv_iadd hx hb dModel_sends_14 ?_
  refine lv_topi (nm_r (nI_add _ _) ?_)
  refine lv_istore_n hx hb dModel_sends_15 rfl hl (by decide) rfl (fun ls hl => ?_)
  have hl : lv_has ls 3 [(2, .int (nI (a * 4 + t))), (0, .ref (qm 0)), (1, .int (nI j))] := hl
  refine lv_aload_n hx hb dModel_sends_16 rfl (lv_at hl 1 rfl) ?_
  refine va_get (D := D) (ci := 5) (v := .ref (qm 2)) (C := RModel) (T := TModel) (N := 25) hx hb hts (fun w h => mc (uModel_in w h)) hown hK hP 0 rfl rfl 4 (by decide) (hts _ (mc wd409)) (fun _ h9 => h9) rfl dModel_sends_17 ?_
  refine lv_iload_n hx hb dModel_sends_20 rfl (lv_at hl 2 rfl) ?_
  refine ka_ld (v := x.1 0 j 0) hx hb hK hP 2 0 rfl rfl (by omega) (by omega) rfl dModel_sends_21 ?_
  by_cases k22_1 : x.1 0 j 0 = nI 1
  · refine lv_topi (nm_r (k22_1) ?_)
    refine lv_tableIn (tgt := 48) hx hb dModel_sends_22 (by decide) (by decide) rfl (by decide) ?_
    refine lv_aload_n hx hb dModel_sends_48 rfl (lv_at hl 1 rfl) ?_
    refine va_get (D := D) (ci := 5) (v := .ref (qm 6)) (C := RModel) (T := TModel) (N := 25) hx hb hts (fun w h => mc (uModel_in w h)) hown hK hP 0 rfl rfl 8 (by decide) (hts _ (mc wd413)) (fun _ h9 => h9) rfl dModel_sends_49 ?_
    refine lv_iload_n hx hb dModel_sends_52 rfl (lv_at hl 2 rfl) ?_
    refine ka_ld (v := x.1 0 j 4) hx hb hK hP 6 0 rfl rfl (by omega) (by omega) rfl dModel_sends_53 ?_
    refine lv_aload_n hx hb dModel_sends_54 rfl (lv_at hl 1 rfl) ?_
    refine va_get (D := D) (ci := 5) (v := .ref (qm 15)) (C := RModel) (T := TModel) (N := 25) hx hb hts (fun w h => mc (uModel_in w h)) hown hK hP 0 rfl rfl 17 (by decide) (hts _ (mc wd422)) (fun _ h9 => h9) rfl dModel_sends_55 ?_
    refine lv_iload_n hx hb dModel_sends_58 rfl (lv_at hl 0 rfl) ?_
    refine ka_ld (v := x.1 8 a t) hx hb hK hP 15 0 rfl rfl (by omega) (by omega) (sq_at (by omega)) dModel_sends_59 ?_
    refine lv_icmp_le (tgt := 67) hx hb dModel_sends_60 (by decide) (fun c60 => ?_) (fun c60 => ?_)
    · refine lv_iconst (v := nI 0) hx hb dModel_sends_67 (by decide) ?_
      exact W.iret (v := nI 0) hx hb hr (fun t9 ht9 hW9 => ⟨⟨nI 0, (wM qm cI cZ n S P x), rfl, Or.inr ⟨0, rfl, ⟨fun h => (hall.mp h).elim (fun q => absurd (k22_1.symm.trans q.1) (by decide)) (fun q => absurd (k22_1.symm.trans q.1) (by decide)), by decide⟩, rfl⟩, by rw [ht9]; exact hP, va_K.moved hW9.alike hK, hD⟩, hS.F ht9⟩) hS.2.2 dModel_sends_68
    · refine lv_iconst (v := nI 1) hx hb dModel_sends_63 (by decide) ?_
      refine lv_goto (tgt := 68) hx hb dModel_sends_64 (by decide) ?_
      exact W.iret (v := nI 1) hx hb hr (fun t9 ht9 hW9 => ⟨⟨nI 1, (wM qm cI cZ n S P x), rfl, Or.inr ⟨1, rfl, ⟨fun h => (hall.mp h).elim (fun q => absurd (k22_1.symm.trans q.1) (by decide)) (fun q => absurd (k22_1.symm.trans q.1) (by decide)), by decide⟩, rfl⟩, by rw [ht9]; exact hP, va_K.moved hW9.alike hK, hD⟩, hS.F ht9⟩) hS.2.2 dModel_sends_68
  by_cases k22_2 : x.1 0 j 0 = nI 2
  · refine lv_topi (nm_r (k22_2) ?_)
    refine lv_tableIn (tgt := 69) hx hb dModel_sends_22 (by decide) (by decide) rfl (by decide) ?_
    refine lv_aload_n hx hb dModel_sends_69 rfl (lv_at hl 1 rfl) ?_
    refine lv_iload_n hx hb dModel_sends_70 rfl (lv_at hl 2 rfl) ?_
    have hPc := hP.sub (ws' := (wM qm cI cZ n S P x)) [0, 1, 2, 3, 4, 5, 6, 7, 8, 9, 10, 11, 12, 13, 14, 15, 16, 17, 18, 19, 20] rfl
    have hDc := hD.sub (ws' := (wM qm cI cZ n S P x)) [0, 1, 2, 3, 4, 5, 6, 7, 8, 9, 10, 11, 12, 13, 14, 15, 16, 17, 18, 19, 20] (by decide) rfl
    refine kx_i (va_runV (As := [.int (nI j)]) (rest := []) ⟨hx, hb, hml, hown, hts⟩ ((m_isAwaited l D cI cZ qm n S P x j a t (hn1) (hn5) (hS1) (hS4) (hP5) (hP64) (hj) (ha) (ht) (hrc) (hsl)) s.heap.size) (cwV 1 hts (gV wd518 wd520 sl_Model_isAwaited wd7 wd521) rfl rfl rfl (by decide +kernel) ⟨Nat.le_of_ble_eq_true rfl, Nat.le_of_ble_eq_true rfl⟩) ⟨fb_PW, va_recv (q0 := 0) (ci := 5) hK hPc rfl rfl, pre_PW hK hPc hDc hZ⟩ rfl rfl hl.1 rfl (lv_room (Nat.le_of_ble_eq_true rfl)) dModel_sends_71 ⟨Nat.zero_le _, Nat.zero_le _⟩) hP hD hS hA [0, 1, 2, 3, 4, 5, 6, 7, 8, 9, 10, 11, 12, 13, 14, 15, 16, 17, 18, 19, 20] [] rfl rfl (by decide) (by decide) (fun r w1 H locs hw hP hD hS => ?_)
    rcases hw with ⟨rfl, h71, rfl⟩ | ⟨rfl, h71, rfl⟩
    · have hP : va_P D vwCl (wM qm cI cZ n S P x) H := hP
      have hD : va_D A (wM qm cI cZ n S P x) := hD
      refine lv_if_eq (tgt := 99) hx hb dModel_sends_74 (by decide) (fun h9 => absurd h9 (by decide)) (fun _ => ?_)
      refine lv_aload_n hx hb dModel_sends_77 rfl (lv_at hl 1 rfl) ?_
      refine lv_aload_n hx hb dModel_sends_78 rfl (lv_at hl 1 rfl) ?_
      refine lv_iload_n hx hb dModel_sends_79 rfl (lv_at hl 2 rfl) ?_
      have hPc := hP.sub (ws' := (wM qm cI cZ n S P x)) [0, 1, 2, 3, 4, 5, 6, 7, 8, 9, 10, 11, 12, 13, 14, 15, 16, 17, 18, 19, 20] rfl
      have hDc := hD.sub (ws' := (wM qm cI cZ n S P x)) [0, 1, 2, 3, 4, 5, 6, 7, 8, 9, 10, 11, 12, 13, 14, 15, 16, 17, 18, 19, 20] (by decide) rfl
      refine kx_i (va_runV (As := [.int (nI j)]) (rest := [.ref (qm 0)]) ⟨hx, hb, hml, hown, hts⟩ ((m_withPromise l D cI cZ qm n S P x j a t (hn1) (hn5) (hS1) (hS4) (hP5) (hP64) (hj) (ha) (ht) (hrc) (hsl)) H.size) (cwV 1 hts (gV wd522 wd524 sl_Model_withPromise wd7 wd525) rfl rfl rfl (by decide +kernel) ⟨Nat.le_of_ble_eq_true rfl, Nat.le_of_ble_eq_true rfl⟩) ⟨fb_PW, va_recv (q0 := 0) (ci := 5) hK hPc rfl rfl, pre_PW hK hPc hDc hZ⟩ rfl rfl hl.1 rfl (lv_room (Nat.le_of_ble_eq_true rfl)) dModel_sends_80 ⟨Nat.zero_le _, Nat.zero_le _⟩) hP hD hS hA [0, 1, 2, 3, 4, 5, 6, 7, 8, 9, 10, 11, 12, 13, 14, 15, 16, 17, 18, 19, 20] [] rfl rfl (by decide) (by decide) (fun r w1 H locs hw hP hD hS => ?_)
      obtain ⟨rfl, rfl⟩ := hw
      have hP : va_P D vwCl (wM qm cI cZ n S P x) H := hP
      have hD : va_D A (wM qm cI cZ n S P x) := hD
      refine lv_topi (nm_r (show orb (x.1 3 a t) (x.1 0 j 1) = nI (e1 ||| 2 ^ b) by rw [hsd, he2]; exact hE.1) ?_)
      have hPc := hP.sub (ws' := ([] : va_W)) [] rfl
      have hDc := hD.sub (ws' := ([] : va_W)) [] (by decide) rfl
      refine kx_i (va_runS (As := [.int (nI (e1 ||| 2 ^ b))]) (rest := [.ref (qm 0)]) ⟨hx, hb, hml, hown, hts⟩ ((m_bits l D cI cZ (e1 ||| 2 ^ b) (hE.2)) H.size) (va_cwS 1 hts (gS wd526 wd527 wd7 wd528) rfl rfl rfl (by decide +kernel) ⟨Nat.le_of_ble_eq_true rfl, Nat.le_of_ble_eq_true rfl⟩) ⟨fb_PW, pre_PW hK hPc hDc hZ⟩ rfl rfl hl.1 rfl (lv_room (Nat.le_of_ble_eq_true rfl)) dModel_sends_83 ⟨Nat.zero_le _, Nat.zero_le _⟩) hP hD hS hA [] [0, 1, 2, 3, 4, 5, 6, 7, 8, 9, 10, 11, 12, 13, 14, 15, 16, 17, 18, 19, 20] rfl rfl (by decide) (by decide) (fun r w1 H locs hw hP hD hS => ?_)
      obtain ⟨rfl, rfl⟩ := hw
      have hP : va_P D vwCl (wM qm cI cZ n S P x) H := hP
      have hD : va_D A (wM qm cI cZ n S P x) := hD
      have hPc := hP.sub (ws' := (wM qm cI cZ n S P x)) [0, 1, 2, 3, 4, 5, 6, 7, 8, 9, 10, 11, 12, 13, 14, 15, 16, 17, 18, 19, 20] rfl
      have hDc := hD.sub (ws' := (wM qm cI cZ n S P x)) [0, 1, 2, 3, 4, 5, 6, 7, 8, 9, 10, 11, 12, 13, 14, 15, 16, 17, 18, 19, 20] (by decide) rfl
      refine kx_i (va_runV (As := [.int (nI (popn (e1 ||| 2 ^ b)))]) (rest := []) ⟨hx, hb, hml, hown, hts⟩ ((m_isMajority l D cI cZ qm n S P x (popn (e1 ||| 2 ^ b)) (hn1) (hn5) (hS1) (hS4) (hP5) (hP64) (popn_le _)) H.size) (cwV 1 hts (gV wd529 wd531 sl_Model_isMajority wd7 wd532) rfl rfl rfl (by decide +kernel) ⟨Nat.le_of_ble_eq_true rfl, Nat.le_of_ble_eq_true rfl⟩) ⟨fb_PW, va_recv (q0 := 0) (ci := 5) hK hPc rfl rfl, pre_PW hK hPc hDc hZ⟩ rfl rfl hl.1 rfl (lv_room (Nat.le_of_ble_eq_true rfl)) dModel_sends_86 ⟨Nat.zero_le _, Nat.zero_le _⟩) hP hD hS hA [0, 1, 2, 3, 4, 5, 6, 7, 8, 9, 10, 11, 12, 13, 14, 15, 16, 17, 18, 19, 20] [] rfl rfl (by decide) (by decide) (fun r w1 H locs hw hP hD hS => ?_)
      rcases hw with ⟨rfl, h86, rfl⟩ | ⟨rfl, h86, rfl⟩
      · have hP : va_P D vwCl (wM qm cI cZ n S P x) H := hP
        have hD : va_D A (wM qm cI cZ n S P x) := hD
        refine lv_if_eq (tgt := 99) hx hb dModel_sends_89 (by decide) (fun h9 => absurd h9 (by decide)) (fun _ => ?_)
        refine lv_aload_n hx hb dModel_sends_92 rfl (lv_at hl 1 rfl) ?_
        refine va_get (D := D) (ci := 5) (v := .int (nI n)) (C := RModel) (T := TModel) (N := 25) hx hb hts (fun w h => mc (uModel_in w h)) hown hK hP 0 rfl rfl 0 (by decide) (hts _ (mc wd405)) (fun _ h9 => h9) rfl dModel_sends_93 ?_
        refine lv_goto (tgt := 100) hx hb dModel_sends_96 (by decide) ?_
        exact W.iret (v := nI n) hx hb hr (fun t9 ht9 hW9 => ⟨⟨nI n, (wM qm cI cZ n S P x), rfl, Or.inl ⟨rfl, hall.mpr (Or.inl ⟨k22_2, h71, by rw [hpo]; exact h86⟩), rfl⟩, by rw [ht9]; exact hP, va_K.moved hW9.alike hK, hD⟩, hS.F ht9⟩) hS.2.2 dModel_sends_100
      · have hP : va_P D vwCl (wM qm cI cZ n S P x) H := hP
        have hD : va_D A (wM qm cI cZ n S P x) := hD
        refine lv_if_eq (tgt := 99) hx hb dModel_sends_89 (by decide) (fun _ => ?_) (fun h9 => absurd (by decide) h9)
        refine lv_iconst (v := nI 0) hx hb dModel_sends_99 (by decide) ?_
        exact W.iret (v := nI 0) hx hb hr (fun t9 ht9 hW9 => ⟨⟨nI 0, (wM qm cI cZ n S P x), rfl, Or.inr ⟨0, rfl, ⟨fun h => (hall.mp h).elim (fun q => h86 (by have h7 := q.2.2; rw [hpo] at h7; exact h7)) (fun q => absurd (k22_2.symm.trans q.1) (by decide)), by decide⟩, rfl⟩, by rw [ht9]; exact hP, va_K.moved hW9.alike hK, hD⟩, hS.F ht9⟩) hS.2.2 dModel_sends_100
    · have hP : va_P D vwCl (wM qm cI cZ n S P x) H := hP
      have hD : va_D A (wM qm cI cZ n S P x) := hD
      refine lv_if_eq (tgt := 99) hx hb dModel_sends_74 (by decide) (fun _ => ?_) (fun h9 => absurd (by decide) h9)
      refine lv_iconst (v := nI 0) hx hb dModel_sends_99 (by decide) ?_
      exact W.iret (v := nI 0) hx hb hr (fun t9 ht9 hW9 => ⟨⟨nI 0, (wM qm cI cZ n S P x), rfl, Or.inr ⟨0, rfl, ⟨fun h => (hall.mp h).elim (fun q => h71 q.2.1) (fun q => absurd (k22_2.symm.trans q.1) (by decide)), by decide⟩, rfl⟩, by rw [ht9]; exact hP, va_K.moved hW9.alike hK, hD⟩, hS.F ht9⟩) hS.2.2 dModel_sends_100
  by_cases k22_3 : x.1 0 j 0 = nI 3
  · refine lv_topi (nm_r (k22_3) ?_)
    refine lv_tableIn (tgt := 101) hx hb dModel_sends_22 (by decide) (by decide) rfl (by decide) ?_
    refine lv_aload_n hx hb dModel_sends_101 rfl (lv_at hl 1 rfl) ?_
    refine va_get (D := D) (ci := 5) (v := .ref (qm 6)) (C := RModel) (T := TModel) (N := 25) hx hb hts (fun w h => mc (uModel_in w h)) hown hK hP 0 rfl rfl 8 (by decide) (hts _ (mc wd413)) (fun _ h9 => h9) rfl dModel_sends_102 ?_
    refine lv_iload_n hx hb dModel_sends_105 rfl (lv_at hl 2 rfl) ?_
    refine ka_ld (v := x.1 0 j 4) hx hb hK hP 6 0 rfl rfl (by omega) (by omega) rfl dModel_sends_106 ?_
    refine lv_aload_n hx hb dModel_sends_107 rfl (lv_at hl 1 rfl) ?_
    refine va_get (D := D) (ci := 5) (v := .ref (qm 15)) (C := RModel) (T := TModel) (N := 25) hx hb hts (fun w h => mc (uModel_in w h)) hown hK hP 0 rfl rfl 17 (by decide) (hts _ (mc wd422)) (fun _ h9 => h9) rfl dModel_sends_108 ?_
    refine lv_iload_n hx hb dModel_sends_111 rfl (lv_at hl 0 rfl) ?_
    refine ka_ld (v := x.1 8 a t) hx hb hK hP 15 0 rfl rfl (by omega) (by omega) (sq_at (by omega)) dModel_sends_112 ?_
    refine lv_icmp_lt (tgt := 123) hx hb dModel_sends_113 (by decide) (fun c113 => ?_) (fun c113 => ?_)
    · refine lv_iconst (v := nI 0) hx hb dModel_sends_123 (by decide) ?_
      exact W.iret (v := nI 0) hx hb hr (fun t9 ht9 hW9 => ⟨⟨nI 0, (wM qm cI cZ n S P x), rfl, Or.inr ⟨0, rfl, ⟨fun h => (hall.mp h).elim (fun q => absurd (k22_3.symm.trans q.1) (by decide)) (fun q => absurd q.2 (Int32.not_le.mpr c113)), by decide⟩, rfl⟩, by rw [ht9]; exact hP, va_K.moved hW9.alike hK, hD⟩, hS.F ht9⟩) hS.2.2 dModel_sends_124
    · refine lv_aload_n hx hb dModel_sends_116 rfl (lv_at hl 1 rfl) ?_
      refine va_get (D := D) (ci := 5) (v := .int (nI n)) (C := RModel) (T := TModel) (N := 25) hx hb hts (fun w h => mc (uModel_in w h)) hown hK hP 0 rfl rfl 0 (by decide) (hts _ (mc wd405)) (fun _ h9 => h9) rfl dModel_sends_117 ?_
      refine lv_goto (tgt := 124) hx hb dModel_sends_120 (by decide) ?_
      exact W.iret (v := nI n) hx hb hr (fun t9 ht9 hW9 => ⟨⟨nI n, (wM qm cI cZ n S P x), rfl, Or.inl ⟨rfl, hall.mpr (Or.inr ⟨k22_3, Int32.not_lt.mp c113⟩), rfl⟩, by rw [ht9]; exact hP, va_K.moved hW9.alike hK, hD⟩, hS.F ht9⟩) hS.2.2 dModel_sends_124
  refine lv_tableOut (tgt := 125) hx hb dModel_sends_22 (tb_out 1 3 (by intro j h1 h2; rcases (show j = 1 ∨ j = 2 ∨ j = 3 by omega) with rfl | rfl | rfl <;> assumption)) (by decide) ?_
  refine lv_iconst (v := nI 0) hx hb dModel_sends_125 (by decide) ?_
  exact W.iret (v := nI 0) hx hb hr (fun t9 ht9 hW9 => ⟨⟨nI 0, (wM qm cI cZ n S P x), rfl, Or.inr ⟨0, rfl, ⟨fun h => (hall.mp h).elim (fun q => k22_2 q.1) (fun q => k22_3 q.1), by decide⟩, rfl⟩, by rw [ht9]; exact hP, va_K.moved hW9.alike hK, hD⟩, hS.F ht9⟩) hS.2.2 dModel_sends_126
theorem dModel_promise_0 : decode cModel_promise 0 = .ok (.iconst 4, 1) := by decide +kernel
theorem dModel_promise_1 : decode cModel_promise 1 = .ok (.aload_n 0, 1) := by decide +kernel
theorem dModel_promise_2 : decode cModel_promise 2 = .ok (.getfield 20, 3) := by decide +kernel
theorem dModel_promise_5 : decode cModel_promise 5 = .ok (.iload_n 1, 1) := by decide +kernel
theorem dModel_promise_6 : decode cModel_promise 6 = .ok (.iaload, 1) := by decide +kernel
theorem dModel_promise_7 : decode cModel_promise 7 = .ok (.imul, 1) := by decide +kernel
theorem dModel_promise_8 : decode cModel_promise 8 = .ok (.aload_n 0, 1) := by decide +kernel
theorem dModel_promise_9 : decode cModel_promise 9 = .ok (.getfield 23, 3) := by decide +kernel
theorem dModel_promise_12 : decode cModel_promise 12 = .ok (.iload_n 1, 1) := by decide +kernel
theorem dModel_promise_13 : decode cModel_promise 13 = .ok (.iaload, 1) := by decide +kernel
theorem dModel_promise_14 : decode cModel_promise 14 = .ok (.iadd, 1) := by decide +kernel
theorem dModel_promise_15 : decode cModel_promise 15 = .ok (.istore_n 2, 1) := by decide +kernel
theorem dModel_promise_16 : decode cModel_promise 16 = .ok (.aload_n 0, 1) := by decide +kernel
theorem dModel_promise_17 : decode cModel_promise 17 = .ok (.iload_n 1, 1) := by decide +kernel
theorem dModel_promise_18 : decode cModel_promise 18 = .ok (.invokevirtual 100, 3) := by decide +kernel
theorem dModel_promise_21 : decode cModel_promise 21 = .ok (.ifCond .ne 4, 3) := by decide +kernel
theorem dModel_promise_24 : decode cModel_promise 24 = .ok (.return_, 1) := by decide +kernel
theorem dModel_promise_25 : decode cModel_promise 25 = .ok (.aload_n 0, 1) := by decide +kernel
theorem dModel_promise_26 : decode cModel_promise 26 = .ok (.getfield 44, 3) := by decide +kernel
theorem dModel_promise_29 : decode cModel_promise 29 = .ok (.iload_n 2, 1) := by decide +kernel
theorem dModel_promise_30 : decode cModel_promise 30 = .ok (.aload_n 0, 1) := by decide +kernel
theorem dModel_promise_31 : decode cModel_promise 31 = .ok (.iload_n 1, 1) := by decide +kernel
theorem dModel_promise_32 : decode cModel_promise 32 = .ok (.invokevirtual 103, 3) := by decide +kernel
theorem dModel_promise_35 : decode cModel_promise 35 = .ok (.iastore, 1) := by decide +kernel
theorem dModel_promise_36 : decode cModel_promise 36 = .ok (.aload_n 0, 1) := by decide +kernel
theorem dModel_promise_37 : decode cModel_promise 37 = .ok (.getfield 32, 3) := by decide +kernel
theorem dModel_promise_40 : decode cModel_promise 40 = .ok (.iload_n 1, 1) := by decide +kernel
theorem dModel_promise_41 : decode cModel_promise 41 = .ok (.iaload, 1) := by decide +kernel
theorem dModel_promise_42 : decode cModel_promise 42 = .ok (.aload_n 0, 1) := by decide +kernel
theorem dModel_promise_43 : decode cModel_promise 43 = .ok (.getfield 47, 3) := by decide +kernel
theorem dModel_promise_46 : decode cModel_promise 46 = .ok (.iload_n 2, 1) := by decide +kernel
theorem dModel_promise_47 : decode cModel_promise 47 = .ok (.iaload, 1) := by decide +kernel
theorem dModel_promise_48 : decode cModel_promise 48 = .ok (.if_icmp .le 27, 3) := by decide +kernel
theorem dModel_promise_51 : decode cModel_promise 51 = .ok (.aload_n 0, 1) := by decide +kernel
theorem dModel_promise_52 : decode cModel_promise 52 = .ok (.getfield 47, 3) := by decide +kernel
theorem dModel_promise_55 : decode cModel_promise 55 = .ok (.iload_n 2, 1) := by decide +kernel
theorem dModel_promise_56 : decode cModel_promise 56 = .ok (.aload_n 0, 1) := by decide +kernel
theorem dModel_promise_57 : decode cModel_promise 57 = .ok (.getfield 32, 3) := by decide +kernel
theorem dModel_promise_60 : decode cModel_promise 60 = .ok (.iload_n 1, 1) := by decide +kernel
theorem dModel_promise_61 : decode cModel_promise 61 = .ok (.iaload, 1) := by decide +kernel
theorem dModel_promise_62 : decode cModel_promise 62 = .ok (.iastore, 1) := by decide +kernel
theorem dModel_promise_63 : decode cModel_promise 63 = .ok (.aload_n 0, 1) := by decide +kernel
theorem dModel_promise_64 : decode cModel_promise 64 = .ok (.getfield 50, 3) := by decide +kernel
theorem dModel_promise_67 : decode cModel_promise 67 = .ok (.iload_n 2, 1) := by decide +kernel
theorem dModel_promise_68 : decode cModel_promise 68 = .ok (.aload_n 0, 1) := by decide +kernel
theorem dModel_promise_69 : decode cModel_promise 69 = .ok (.getfield 29, 3) := by decide +kernel
theorem dModel_promise_72 : decode cModel_promise 72 = .ok (.iload_n 1, 1) := by decide +kernel
theorem dModel_promise_73 : decode cModel_promise 73 = .ok (.iaload, 1) := by decide +kernel
theorem dModel_promise_74 : decode cModel_promise 74 = .ok (.iastore, 1) := by decide +kernel
theorem dModel_promise_75 : decode cModel_promise 75 = .ok (.aload_n 0, 1) := by decide +kernel
theorem dModel_promise_76 : decode cModel_promise 76 = .ok (.aload_n 0, 1) := by decide +kernel
theorem dModel_promise_77 : decode cModel_promise 77 = .ok (.getfield 44, 3) := by decide +kernel
theorem dModel_promise_80 : decode cModel_promise 80 = .ok (.iload_n 2, 1) := by decide +kernel
theorem dModel_promise_81 : decode cModel_promise 81 = .ok (.iaload, 1) := by decide +kernel
theorem dModel_promise_82 : decode cModel_promise 82 = .ok (.invokestatic 107, 3) := by decide +kernel
theorem dModel_promise_85 : decode cModel_promise 85 = .ok (.invokevirtual 110, 3) := by decide +kernel
theorem dModel_promise_88 : decode cModel_promise 88 = .ok (.ifCond .eq 57, 3) := by decide +kernel
theorem dModel_promise_91 : decode cModel_promise 91 = .ok (.aload_n 0, 1) := by decide +kernel
theorem dModel_promise_92 : decode cModel_promise 92 = .ok (.getfield 38, 3) := by decide +kernel
theorem dModel_promise_95 : decode cModel_promise 95 = .ok (.iload_n 2, 1) := by decide +kernel
theorem dModel_promise_96 : decode cModel_promise 96 = .ok (.iconst 2, 1) := by decide +kernel
theorem dModel_promise_97 : decode cModel_promise 97 = .ok (.iastore, 1) := by decide +kernel
theorem dModel_promise_98 : decode cModel_promise 98 = .ok (.aload_n 0, 1) := by decide +kernel
theorem dModel_promise_99 : decode cModel_promise 99 = .ok (.iconst 3, 1) := by decide +kernel
theorem dModel_promise_100 : decode cModel_promise 100 = .ok (.aload_n 0, 1) := by decide +kernel
theorem dModel_promise_101 : decode cModel_promise 101 = .ok (.getfield 20, 3) := by decide +kernel
theorem dModel_promise_104 : decode cModel_promise 104 = .ok (.iload_n 1, 1) := by decide +kernel
theorem dModel_promise_105 : decode cModel_promise 105 = .ok (.iaload, 1) := by decide +kernel
theorem dModel_promise_106 : decode cModel_promise 106 = .ok (.aload_n 0, 1) := by decide +kernel
theorem dModel_promise_107 : decode cModel_promise 107 = .ok (.getfield 23, 3) := by decide +kernel
theorem dModel_promise_110 : decode cModel_promise 110 = .ok (.iload_n 1, 1) := by decide +kernel
theorem dModel_promise_111 : decode cModel_promise 111 = .ok (.iaload, 1) := by decide +kernel
theorem dModel_promise_112 : decode cModel_promise 112 = .ok (.aload_n 0, 1) := by decide +kernel
theorem dModel_promise_113 : decode cModel_promise 113 = .ok (.getfield 35, 3) := by decide +kernel
theorem dModel_promise_116 : decode cModel_promise 116 = .ok (.iload_n 2, 1) := by decide +kernel
theorem dModel_promise_117 : decode cModel_promise 117 = .ok (.iaload, 1) := by decide +kernel
theorem dModel_promise_118 : decode cModel_promise 118 = .ok (.aload_n 0, 1) := by decide +kernel
theorem dModel_promise_119 : decode cModel_promise 119 = .ok (.getfield 47, 3) := by decide +kernel
theorem dModel_promise_122 : decode cModel_promise 122 = .ok (.iload_n 2, 1) := by decide +kernel
theorem dModel_promise_123 : decode cModel_promise 123 = .ok (.iaload, 1) := by decide +kernel
theorem dModel_promise_124 : decode cModel_promise 124 = .ok (.ifCond .ge 12, 3) := by decide +kernel
theorem dModel_promise_127 : decode cModel_promise 127 = .ok (.aload_n 0, 1) := by decide +kernel
theorem dModel_promise_128 : decode cModel_promise 128 = .ok (.getfield 41, 3) := by decide +kernel
theorem dModel_promise_131 : decode cModel_promise 131 = .ok (.iload_n 2, 1) := by decide +kernel
theorem dModel_promise_132 : decode cModel_promise 132 = .ok (.iaload, 1) := by decide +kernel
theorem dModel_promise_133 : decode cModel_promise 133 = .ok (.goto 9, 3) := by decide +kernel
theorem dModel_promise_136 : decode cModel_promise 136 = .ok (.aload_n 0, 1) := by decide +kernel
theorem dModel_promise_137 : decode cModel_promise 137 = .ok (.getfield 50, 3) := by decide +kernel
theorem dModel_promise_140 : decode cModel_promise 140 = .ok (.iload_n 2, 1) := by decide +kernel
theorem dModel_promise_141 : decode cModel_promise 141 = .ok (.iaload, 1) := by decide +kernel
theorem dModel_promise_142 : decode cModel_promise 142 = .ok (.invokevirtual 96, 3) := by decide +kernel
theorem dModel_promise_145 : decode cModel_promise 145 = .ok (.return_, 1) := by decide +kernel
set_option maxRecDepth 100000 in
set_option maxHeartbeats 4000000 in
theorem m_promise (l : Launch) (D : va_G) (cI cZ : ClassId) (qm : Nat → Nat) (n : Nat) (S : Nat) (P : Nat) (x : St) (j : Nat) (a : Nat) (t : Nat) (b : Nat) (hn1 : 1 ≤ n) (hn5 : n ≤ 5) (hS1 : 1 ≤ S) (hS4 : S ≤ 4) (hP5 : 5 ≤ P) (hP64 : P ≤ 64) (hj : j < 64) (ha : a < n) (ht : t < S) (hbn : b < n) (hrc : x.1 0 j 2 = nI a) (hsl : x.1 0 j 3 = nI t) (hsd : x.1 0 j 1 = nI b) (hIn : Inv n S x) (hv0 : 0 ≤ x.1 0 j 5) (hroom2 : (x.1 1 a t = nI 1 ∧ x.1 2 a t = x.1 0 j 4) → n < 2 * popn (ix (orb (x.1 3 a t) (nI b))) → cntx P x + n ≤ P) : MV l D [(cI, .int), (cZ, .boolean)] yModel_promise wsModel_promise ({ frames := 2, cells := 0, slots := 0, locals := 55 }) [.ref (qm 0), .int (nI j)] (wM qm cI cZ n S P x) (fun w => w = (wM qm cI cZ n S P (sTake n P x (nI 2) b a t (x.1 0 j 4) (x.1 0 j 5) (x.1 0 j 6)))) := by
  intro sz
  have hI := hIn.2.2.2.2
  obtain ⟨e1, he1, he2⟩ := hI.1 a t
  have hE := orb_fin e1 he1 b (by omega)
  have hpo : ix (orb (x.1 3 a t) (nI b)) = e1 ||| 2 ^ b := by
    rw [he2, hE.1]
    exact ix_nI hE.2 (by omega)
  refine Met.ofW (cc := cModel_promise) (maxL := 3) (ret := (Option.none : Option ClassFile.FieldType)) (by decide) rfl ?_
  intro p e s m args below meth c s₁ B hml hv
  obtain ⟨rfl, hsz, hP, hK, hD0, hZ⟩ := hv
  have hx := B.exec
  have hb := B.bytes
  have hr := B.returns
  have hts := atoms_spec (ws := wsModel_promise) B.pre
  have hown : s.vm.findClass RModel = some m.cls := findClass_of_methodNamed B.named
  have hlocks := B.notSynchronized
  subst hsz
  have hD := hD0.self (sz := s.heap.size)
  generalize hAe : va_A (wM qm cI cZ n S P x) s.heap.size = A at hD ⊢
  have hA : ∀ q : Nat, s.heap.size ≤ q → A q := fun q h => by rw [← hAe]; exact Or.inr h
  have hS : va_S A s.heap s.heap [] := va_S.rf
  have hP : va_P D vwCl (wM qm cI cZ n S P x) s.heap := hP
  have hl := lv_entry ([.ref (qm 0), .int (nI j)]) (n := 3) (Nat.le_of_ble_eq_true rfl)
  rw [lg_entry_eq]
  generalize (lg_sl ([.ref (qm 0), .int (nI j)]) ++ List.replicate (3 - (lg_sl ([.ref (qm 0), .int (nI j)])).length) Slot.unset).toArray = ls at hl ⊢
  have hl : lv_has ls 3 [(0, .ref (qm 0)), (1, .int (nI j))] := hl
  refine lv_iconst (v := nI 4) hx hb dModel_promise_0 (by decide) ?_
  refine lv_aload_n hx hb dModel_promise_1 rfl (lv_at hl 0 rfl) ?_
  refine va_get (D := D) (ci := 5) (v := .ref (qm 4)) (C := RModel) (T := TModel) (N := 25) hx hb hts (fun w h => mc (uModel_in w h)) hown hK hP 0 rfl rfl 6 (by decide) (hts _ (mc wd411)) (fun _ h9 => h9) rfl dModel_promise_2 ?_
  refine lv_iload_n hx hb dModel_promise_5 rfl (lv_at hl 1 rfl) ?_
  refine ka_ld (v := nI a) hx hb hK hP 4 0 rfl rfl (by omega) (by omega) hrc dModel_promise_6 ?_
  refine lv_imul hx hb dModel_promise_7 ?_
  refine lv_topi (nm_r ((pk_mul _ _).trans (congrArg nI (Nat.mul_comm _ _))) ?_)
  refine lv_aload_n hx hb dModel_promise_8 rfl (lv_at hl 0 rfl) ?_
  refine va_get (D := D) (ci := 5) (v := .ref (qm 5)) (C := RModel) (T := TModel) (N := 25) hx hb hts (fun w h => mc (uModel_in w h)) hown hK hP 0 rfl rfl 7 (by decide) (hts _ (mc wd412)) (fun _ h9 => h9) rfl dModel_promise_9 ?_
  refine lv_iload_n hx hb dModel_promise_12 rfl (lv_at hl 1 rfl) ?_
  refine ka_ld (v := nI t) hx hb hK hP 5 0 rfl rfl (by omega) (by omega) hsl dModel_promise_13 ?_
  refine lv_iadd hx hb dModel_promise_14 ?_
  refine lv_topi (nm_r (nI_add _ _) ?_)
  refine lv_istore_n hx hb dModel_promise_15 rfl hl (by decide) rfl (fun ls hl => ?_)
  have hl : lv_has ls 3 [(2, .int (nI (a * 4 + t))), (0, .ref (qm 0)), (1, .int (nI j))] := hl
  refine lv_aload_n hx hb dModel_promise_16 rfl (lv_at hl 1 rfl) ?_
  refine lv_iload_n hx hb dModel_promise_17 rfl (lv_at hl 2 rfl) ?_
  have hPc := hP.sub (ws' := (wM qm cI cZ n S P x)) [0, 1, 2, 3, 4, 5, 6, 7, 8, 9, 10, 11, 12, 13, 14, 15, 16, 17, 18, 19, 20] rfl
  have hDc := hD.sub (ws' := (wM qm cI cZ n S P x)) [0, 1, 2, 3, 4, 5, 6, 7, 8, 9, 10, 11, 12, 13, 14, 15, 16, 17, 18, 19, 20] (by decide) rfl
  refine kx_i (va_runV (As := [.int (nI j)]) (rest := []) ⟨hx, hb, hml, hown, hts⟩ ((m_isAwaited l D cI cZ qm n S P x j a t (hn1) (hn5) (hS1) (hS4) (hP5) (hP64) (hj) (ha) (ht) (hrc) (hsl)) s.heap.size) (cwV 1 hts (gV wd518 wd520 sl_Model_isAwaited wd7 wd521) rfl rfl rfl (by decide +kernel) ⟨Nat.le_of_ble_eq_true rfl, Nat.le_of_ble_eq_true rfl⟩) ⟨fb_PW, va_recv (q0 := 0) (ci := 5) hK hPc rfl rfl, pre_PW hK hPc hDc hZ⟩ rfl rfl hl.1 rfl (lv_room (Nat.le_of_ble_eq_true rfl)) dModel_promise_18 ⟨Nat.zero_le _, Nat.zero_le _⟩) hP hD hS hA [0, 1, 2, 3, 4, 5, 6, 7, 8, 9, 10, 11, 12, 13, 14, 15, 16, 17, 18, 19, 20] [] rfl rfl (by decide) (by decide) (fun r w1 H locs hw hP hD hS => ?_)
  rcases hw with ⟨rfl, h18, rfl⟩ | ⟨rfl, h18, rfl⟩
  · have hP : va_P D vwCl (wM qm cI cZ n S P x) H := hP
    have hD : va_D A (wM qm cI cZ n S P x) := hD
    refine lv_if_ne (tgt := 25) hx hb dModel_promise_21 (by decide) (fun _ => ?_) (fun h9 => absurd h9 (by decide))
    refine lv_aload_n hx hb dModel_promise_25 rfl (lv_at hl 1 rfl) ?_
    refine va_get (D := D) (ci := 5) (v := .ref (qm 12)) (C := RModel) (T := TModel) (N := 25) hx hb hts (fun w h => mc (uModel_in w h)) hown hK hP 0 rfl rfl 14 (by decide) (hts _ (mc wd419)) (fun _ h9 => h9) rfl dModel_promise_26 ?_
    refine lv_iload_n hx hb dModel_promise_29 rfl (lv_at hl 0 rfl) ?_
    refine lv_aload_n hx hb dModel_promise_30 rfl (lv_at hl 1 rfl) ?_
    refine lv_iload_n hx hb dModel_promise_31 rfl (lv_at hl 2 rfl) ?_
    have hPc := hP.sub (ws' := (wM qm cI cZ n S P x)) [0, 1, 2, 3, 4, 5, 6, 7, 8, 9, 10, 11, 12, 13, 14, 15, 16, 17, 18, 19, 20] rfl
    have hDc := hD.sub (ws' := (wM qm cI cZ n S P x)) [0, 1, 2, 3, 4, 5, 6, 7, 8, 9, 10, 11, 12, 13, 14, 15, 16, 17, 18, 19, 20] (by decide) rfl
    refine kx_i (va_runV (As := [.int (nI j)]) (rest := [.int (nI (a * 4 + t)), .ref (qm 12)]) ⟨hx, hb, hml, hown, hts⟩ ((m_withPromise l D cI cZ qm n S P x j a t (hn1) (hn5) (hS1) (hS4) (hP5) (hP64) (hj) (ha) (ht) (hrc) (hsl)) H.size) (cwV 1 hts (gV wd522 wd524 sl_Model_withPromise wd7 wd525) rfl rfl rfl (by decide +kernel) ⟨Nat.le_of_ble_eq_true rfl, Nat.le_of_ble_eq_true rfl⟩) ⟨fb_PW, va_recv (q0 := 0) (ci := 5) hK hPc rfl rfl, pre_PW hK hPc hDc hZ⟩ rfl rfl hl.1 rfl (lv_room (Nat.le_of_ble_eq_true rfl)) dModel_promise_32 ⟨Nat.zero_le _, Nat.zero_le _⟩) hP hD hS hA [0, 1, 2, 3, 4, 5, 6, 7, 8, 9, 10, 11, 12, 13, 14, 15, 16, 17, 18, 19, 20] [] rfl rfl (by decide) (by decide) (fun r w1 H locs hw hP hD hS => ?_)
    obtain ⟨rfl, rfl⟩ := hw
    have hP : va_P D vwCl (wM qm cI cZ n S P x) H := hP
    have hD : va_D A (wM qm cI cZ n S P x) := hD
    refine lv_topi (nm_r (show orb (x.1 3 a t) (x.1 0 j 1) = orb (x.1 3 a t) (nI b) by rw [hsd]) ?_)
    refine ka_st (f' := sq 4 (up2 (x.1 3) a t (orb (x.1 3 a t) (nI b)))) hx hb hK hP hD hS 12 0 rfl rfl (by omega) (by omega) (sq_up (by omega)) dModel_promise_35 (fun H locs hP hD hS => ?_)
    have hP : va_P D vwCl (wR qm cI cZ n S P (col (x.1 13) 0) (col (x.1 0) 0) (col (x.1 0) 1) (col (x.1 0) 2) (col (x.1 0) 3) (col (x.1 0) 4) (col (x.1 0) 5) (col (x.1 0) 6) (sq 4 (x.1 2)) (sq 4 (x.1 1)) (sq 4 (x.1 6)) (sq 4 (up2 (x.1 3) a t (orb (x.1 3 a t) (nI b)))) (sq 4 (x.1 4)) (sq 4 (x.1 7)) (sq 4 (x.1 8)) (sq 4 (x.1 9)) (sq 4 (x.1 10)) (hrm (x.2 0)) (hrm (x.2 1)) (sq 4 (x.1 11)) (x.1 12 0 0) (x.1 12 0 1)) H := hP
    have hD : va_D A (wR qm cI cZ n S P (col (x.1 13) 0) (col (x.1 0) 0) (col (x.1 0) 1) (col (x.1 0) 2) (col (x.1 0) 3) (col (x.1 0) 4) (col (x.1 0) 5) (col (x.1 0) 6) (sq 4 (x.1 2)) (sq 4 (x.1 1)) (sq 4 (x.1 6)) (sq 4 (up2 (x.1 3) a t (orb (x.1 3 a t) (nI b)))) (sq 4 (x.1 4)) (sq 4 (x.1 7)) (sq 4 (x.1 8)) (sq 4 (x.1 9)) (sq 4 (x.1 10)) (hrm (x.2 0)) (hrm (x.2 1)) (sq 4 (x.1 11)) (x.1 12 0 0) (x.1 12 0 1)) := hD
    refine lv_aload_n hx hb dModel_promise_36 rfl (lv_at hl 1 rfl) ?_
    refine va_get (D := D) (ci := 5) (v := .ref (qm 8)) (C := RModel) (T := TModel) (N := 25) hx hb hts (fun w h => mc (uModel_in w h)) hown hK hP 0 rfl rfl 10 (by decide) (hts _ (mc wd415)) (fun _ h9 => h9) rfl dModel_promise_37 ?_
    refine lv_iload_n hx hb dModel_promise_40 rfl (lv_at hl 2 rfl) ?_
    refine ka_ld (v := x.1 0 j 6) hx hb hK hP 8 0 rfl rfl (by omega) (by omega) rfl dModel_promise_41 ?_
    refine lv_aload_n hx hb dModel_promise_42 rfl (lv_at hl 1 rfl) ?_
    refine va_get (D := D) (ci := 5) (v := .ref (qm 13)) (C := RModel) (T := TModel) (N := 25) hx hb hts (fun w h => mc (uModel_in w h)) hown hK hP 0 rfl rfl 15 (by decide) (hts _ (mc wd420)) (fun _ h9 => h9) rfl dModel_promise_43 ?_
    refine lv_iload_n hx hb dModel_promise_46 rfl (lv_at hl 0 rfl) ?_
    refine ka_ld (v := x.1 4 a t) hx hb hK hP 13 0 rfl rfl (by omega) (by omega) (sq_at (by omega)) dModel_promise_47 ?_
    refine lv_icmp_le (tgt := 75) hx hb dModel_promise_48 (by decide) (fun c48 => ?_) (fun c48 => ?_)
    · refine lv_aload_n hx hb dModel_promise_75 rfl (lv_at hl 1 rfl) ?_
      refine lv_aload_n hx hb dModel_promise_76 rfl (lv_at hl 1 rfl) ?_
      refine va_get (D := D) (ci := 5) (v := .ref (qm 12)) (C := RModel) (T := TModel) (N := 25) hx hb hts (fun w h => mc (uModel_in w h)) hown hK hP 0 rfl rfl 14 (by decide) (hts _ (mc wd419)) (fun _ h9 => h9) rfl dModel_promise_77 ?_
      refine lv_iload_n hx hb dModel_promise_80 rfl (lv_at hl 0 rfl) ?_
      refine ka_ld (v := (up2 (x.1 3) a t (orb (x.1 3 a t) (nI b))) a t) hx hb hK hP 12 0 rfl rfl (by omega) (by omega) (sq_at (by omega)) dModel_promise_81 ?_
      refine lv_topi (nm_r (up2_s) ?_)
      refine lv_topi (nm_r (show orb (x.1 3 a t) (nI b) = nI (e1 ||| 2 ^ b) by rw [he2]; exact hE.1) ?_)
      have hPc := hP.sub (ws' := ([] : va_W)) [] rfl
      have hDc := hD.sub (ws' := ([] : va_W)) [] (by decide) rfl
      refine kx_i (va_runS (As := [.int (nI (e1 ||| 2 ^ b))]) (rest := [.ref (qm 0)]) ⟨hx, hb, hml, hown, hts⟩ ((m_bits l D cI cZ (e1 ||| 2 ^ b) (hE.2)) H.size) (va_cwS 1 hts (gS wd526 wd527 wd7 wd528) rfl rfl rfl (by decide +kernel) ⟨Nat.le_of_ble_eq_true rfl, Nat.le_of_ble_eq_true rfl⟩) ⟨fb_PW, pre_PW hK hPc hDc hZ⟩ rfl rfl hl.1 rfl (lv_room (Nat.le_of_ble_eq_true rfl)) dModel_promise_82 ⟨Nat.zero_le _, Nat.zero_le _⟩) hP hD hS hA [] [0, 1, 2, 3, 4, 5, 6, 7, 8, 9, 10, 11, 12, 13, 14, 15, 16, 17, 18, 19, 20] rfl rfl (by decide) (by decide) (fun r w1 H locs hw hP hD hS => ?_)
      obtain ⟨rfl, rfl⟩ := hw
      have hP : va_P D vwCl (wR qm cI cZ n S P (col (x.1 13) 0) (col (x.1 0) 0) (col (x.1 0) 1) (col (x.1 0) 2) (col (x.1 0) 3) (col (x.1 0) 4) (col (x.1 0) 5) (col (x.1 0) 6) (sq 4 (x.1 2)) (sq 4 (x.1 1)) (sq 4 (x.1 6)) (sq 4 (up2 (x.1 3) a t (orb (x.1 3 a t) (nI b)))) (sq 4 (x.1 4)) (sq 4 (x.1 7)) (sq 4 (x.1 8)) (sq 4 (x.1 9)) (sq 4 (x.1 10)) (hrm (x.2 0)) (hrm (x.2 1)) (sq 4 (x.1 11)) (x.1 12 0 0) (x.1 12 0 1)) H := hP
      have hD : va_D A (wR qm cI cZ n S P (col (x.1 13) 0) (col (x.1 0) 0) (col (x.1 0) 1) (col (x.1 0) 2) (col (x.1 0) 3) (col (x.1 0) 4) (col (x.1 0) 5) (col (x.1 0) 6) (sq 4 (x.1 2)) (sq 4 (x.1 1)) (sq 4 (x.1 6)) (sq 4 (up2 (x.1 3) a t (orb (x.1 3 a t) (nI b)))) (sq 4 (x.1 4)) (sq 4 (x.1 7)) (sq 4 (x.1 8)) (sq 4 (x.1 9)) (sq 4 (x.1 10)) (hrm (x.2 0)) (hrm (x.2 1)) (sq 4 (x.1 11)) (x.1 12 0 0) (x.1 12 0 1)) := hD
      have hW1 : (wR qm cI cZ n S P (col (x.1 13) 0) (col (x.1 0) 0) (col (x.1 0) 1) (col (x.1 0) 2) (col (x.1 0) 3) (col (x.1 0) 4) (col (x.1 0) 5) (col (x.1 0) 6) (sq 4 (x.1 2)) (sq 4 (x.1 1)) (sq 4 (x.1 6)) (sq 4 (up2 (x.1 3) a t (orb (x.1 3 a t) (nI b)))) (sq 4 (x.1 4)) (sq 4 (x.1 7)) (sq 4 (x.1 8)) (sq 4 (x.1 9)) (sq 4 (x.1 10)) (hrm (x.2 0)) (hrm (x.2 1)) (sq 4 (x.1 11)) (x.1 12 0 0) (x.1 12 0 1)) = (wM qm cI cZ n S P (sProm1 x a t (nI b) (x.1 0 j 5) (x.1 0 j 6))) := by unfold sProm1; rw [if_neg (Int32.not_lt.mpr c48)]; rfl
      rw [hW1] at hP hD
      have hPc := hP.sub (ws' := (wM qm cI cZ n S P (sProm1 x a t (nI b) (x.1 0 j 5) (x.1 0 j 6)))) [0, 1, 2, 3, 4, 5, 6, 7, 8, 9, 10, 11, 12, 13, 14, 15, 16, 17, 18, 19, 20] rfl
      have hDc := hD.sub (ws' := (wM qm cI cZ n S P (sProm1 x a t (nI b) (x.1 0 j 5) (x.1 0 j 6)))) [0, 1, 2, 3, 4, 5, 6, 7, 8, 9, 10, 11, 12, 13, 14, 15, 16, 17, 18, 19, 20] (by decide) rfl
      refine kx_i (va_runV (As := [.int (nI (popn (e1 ||| 2 ^ b)))]) (rest := []) ⟨hx, hb, hml, hown, hts⟩ ((m_isMajority l D cI cZ qm n S P (sProm1 x a t (nI b) (x.1 0 j 5) (x.1 0 j 6)) (popn (e1 ||| 2 ^ b)) (hn1) (hn5) (hS1) (hS4) (hP5) (hP64) (popn_le _)) H.size) (cwV 1 hts (gV wd529 wd531 sl_Model_isMajority wd7 wd532) rfl rfl rfl (by decide +kernel) ⟨Nat.le_of_ble_eq_true rfl, Nat.le_of_ble_eq_true rfl⟩) ⟨fb_PW, va_recv (q0 := 0) (ci := 5) hK hPc rfl rfl, pre_PW hK hPc hDc hZ⟩ rfl rfl hl.1 rfl (lv_room (Nat.le_of_ble_eq_true rfl)) dModel_promise_85 ⟨Nat.zero_le _, Nat.zero_le _⟩) hP hD hS hA [0, 1, 2, 3, 4, 5, 6, 7, 8, 9, 10, 11, 12, 13, 14, 15, 16, 17, 18, 19, 20] [] rfl rfl (by decide) (by decide) (fun r w1 H locs hw hP hD hS => ?_)
      rcases hw with ⟨rfl, h85, rfl⟩ | ⟨rfl, h85, rfl⟩
      · have hP : va_P D vwCl (wM qm cI cZ n S P (sProm1 x a t (nI b) (x.1 0 j 5) (x.1 0 j 6))) H := hP
        have hD : va_D A (wM qm cI cZ n S P (sProm1 x a t (nI b) (x.1 0 j 5) (x.1 0 j 6))) := hD
        refine lv_if_eq (tgt := 145) hx hb dModel_promise_88 (by decide) (fun h9 => absurd h9 (by decide)) (fun _ => ?_)
        refine lv_aload_n hx hb dModel_promise_91 rfl (lv_at hl 1 rfl) ?_
        refine va_get (D := D) (ci := 5) (v := .ref (qm 10)) (C := RModel) (T := TModel) (N := 25) hx hb hts (fun w h => mc (uModel_in w h)) hown hK hP 0 rfl rfl 12 (by decide) (hts _ (mc wd417)) (fun _ h9 => h9) rfl dModel_promise_92 ?_
        refine lv_iload_n hx hb dModel_promise_95 rfl (lv_at hl 0 rfl) ?_
        refine lv_iconst (v := nI 2) hx hb dModel_promise_96 (by decide) ?_
        refine ka_st (f' := sq 4 (up2 ((sProm1 x a t (nI b) (x.1 0 j 5) (x.1 0 j 6)).1 1) a t (nI 2))) hx hb hK hP hD hS 10 0 rfl rfl (by omega) (by omega) (sq_up (by omega)) dModel_promise_97 (fun H locs hP hD hS => ?_)
        have hP : va_P D vwCl (wR qm cI cZ n S P (col ((sProm1 x a t (nI b) (x.1 0 j 5) (x.1 0 j 6)).1 13) 0) (col ((sProm1 x a t (nI b) (x.1 0 j 5) (x.1 0 j 6)).1 0) 0) (col ((sProm1 x a t (nI b) (x.1 0 j 5) (x.1 0 j 6)).1 0) 1) (col ((sProm1 x a t (nI b) (x.1 0 j 5) (x.1 0 j 6)).1 0) 2) (col ((sProm1 x a t (nI b) (x.1 0 j 5) (x.1 0 j 6)).1 0) 3) (col ((sProm1 x a t (nI b) (x.1 0 j 5) (x.1 0 j 6)).1 0) 4) (col ((sProm1 x a t (nI b) (x.1 0 j 5) (x.1 0 j 6)).1 0) 5) (col ((sProm1 x a t (nI b) (x.1 0 j 5) (x.1 0 j 6)).1 0) 6) (sq 4 ((sProm1 x a t (nI b) (x.1 0 j 5) (x.1 0 j 6)).1 2)) (sq 4 (up2 ((sProm1 x a t (nI b) (x.1 0 j 5) (x.1 0 j 6)).1 1) a t (nI 2))) (sq 4 ((sProm1 x a t (nI b) (x.1 0 j 5) (x.1 0 j 6)).1 6)) (sq 4 ((sProm1 x a t (nI b) (x.1 0 j 5) (x.1 0 j 6)).1 3)) (sq 4 ((sProm1 x a t (nI b) (x.1 0 j 5) (x.1 0 j 6)).1 4)) (sq 4 ((sProm1 x a t (nI b) (x.1 0 j 5) (x.1 0 j 6)).1 7)) (sq 4 ((sProm1 x a t (nI b) (x.1 0 j 5) (x.1 0 j 6)).1 8)) (sq 4 ((sProm1 x a t (nI b) (x.1 0 j 5) (x.1 0 j 6)).1 9)) (sq 4 ((sProm1 x a t (nI b) (x.1 0 j 5) (x.1 0 j 6)).1 10)) (hrm ((sProm1 x a t (nI b) (x.1 0 j 5) (x.1 0 j 6)).2 0)) (hrm ((sProm1 x a t (nI b) (x.1 0 j 5) (x.1 0 j 6)).2 1)) (sq 4 ((sProm1 x a t (nI b) (x.1 0 j 5) (x.1 0 j 6)).1 11)) ((sProm1 x a t (nI b) (x.1 0 j 5) (x.1 0 j 6)).1 12 0 0) ((sProm1 x a t (nI b) (x.1 0 j 5) (x.1 0 j 6)).1 12 0 1)) H := hP
        have hD : va_D A (wR qm cI cZ n S P (col ((sProm1 x a t (nI b) (x.1 0 j 5) (x.1 0 j 6)).1 13) 0) (col ((sProm1 x a t (nI b) (x.1 0 j 5) (x.1 0 j 6)).1 0) 0) (col ((sProm1 x a t (nI b) (x.1 0 j 5) (x.1 0 j 6)).1 0) 1) (col ((sProm1 x a t (nI b) (x.1 0 j 5) (x.1 0 j 6)).1 0) 2) (col ((sProm1 x a t (nI b) (x.1 0 j 5) (x.1 0 j 6)).1 0) 3) (col ((sProm1 x a t (nI b) (x.1 0 j 5) (x.1 0 j 6)).1 0) 4) (col ((sProm1 x a t (nI b) (x.1 0 j 5) (x.1 0 j 6)).1 0) 5) (col ((sProm1 x a t (nI b) (x.1 0 j 5) (x.1 0 j 6)).1 0) 6) (sq 4 ((sProm1 x a t (nI b) (x.1 0 j 5) (x.1 0 j 6)).1 2)) (sq 4 (up2 ((sProm1 x a t (nI b) (x.1 0 j 5) (x.1 0 j 6)).1 1) a t (nI 2))) (sq 4 ((sProm1 x a t (nI b) (x.1 0 j 5) (x.1 0 j 6)).1 6)) (sq 4 ((sProm1 x a t (nI b) (x.1 0 j 5) (x.1 0 j 6)).1 3)) (sq 4 ((sProm1 x a t (nI b) (x.1 0 j 5) (x.1 0 j 6)).1 4)) (sq 4 ((sProm1 x a t (nI b) (x.1 0 j 5) (x.1 0 j 6)).1 7)) (sq 4 ((sProm1 x a t (nI b) (x.1 0 j 5) (x.1 0 j 6)).1 8)) (sq 4 ((sProm1 x a t (nI b) (x.1 0 j 5) (x.1 0 j 6)).1 9)) (sq 4 ((sProm1 x a t (nI b) (x.1 0 j 5) (x.1 0 j 6)).1 10)) (hrm ((sProm1 x a t (nI b) (x.1 0 j 5) (x.1 0 j 6)).2 0)) (hrm ((sProm1 x a t (nI b) (x.1 0 j 5) (x.1 0 j 6)).2 1)) (sq 4 ((sProm1 x a t (nI b) (x.1 0 j 5) (x.1 0 j 6)).1 11)) ((sProm1 x a t (nI b) (x.1 0 j 5) (x.1 0 j 6)).1 12 0 0) ((sProm1 x a t (nI b) (x.1 0 j 5) (x.1 0 j 6)).1 12 0 1)) := hD
        have hW2 : (wR qm cI cZ n S P (col ((sProm1 x a t (nI b) (x.1 0 j 5) (x.1 0 j 6)).1 13) 0) (col ((sProm1 x a t (nI b) (x.1 0 j 5) (x.1 0 j 6)).1 0) 0) (col ((sProm1 x a t (nI b) (x.1 0 j 5) (x.1 0 j 6)).1 0) 1) (col ((sProm1 x a t (nI b) (x.1 0 j 5) (x.1 0 j 6)).1 0) 2) (col ((sProm1 x a t (nI b) (x.1 0 j 5) (x.1 0 j 6)).1 0) 3) (col ((sProm1 x a t (nI b) (x.1 0 j 5) (x.1 0 j 6)).1 0) 4) (col ((sProm1 x a t (nI b) (x.1 0 j 5) (x.1 0 j 6)).1 0) 5) (col ((sProm1 x a t (nI b) (x.1 0 j 5) (x.1 0 j 6)).1 0) 6) (sq 4 ((sProm1 x a t (nI b) (x.1 0 j 5) (x.1 0 j 6)).1 2)) (sq 4 (up2 ((sProm1 x a t (nI b) (x.1 0 j 5) (x.1 0 j 6)).1 1) a t (nI 2))) (sq 4 ((sProm1 x a t (nI b) (x.1 0 j 5) (x.1 0 j 6)).1 6)) (sq 4 ((sProm1 x a t (nI b) (x.1 0 j 5) (x.1 0 j 6)).1 3)) (sq 4 ((sProm1 x a t (nI b) (x.1 0 j 5) (x.1 0 j 6)).1 4)) (sq 4 ((sProm1 x a t (nI b) (x.1 0 j 5) (x.1 0 j 6)).1 7)) (sq 4 ((sProm1 x a t (nI b) (x.1 0 j 5) (x.1 0 j 6)).1 8)) (sq 4 ((sProm1 x a t (nI b) (x.1 0 j 5) (x.1 0 j 6)).1 9)) (sq 4 ((sProm1 x a t (nI b) (x.1 0 j 5) (x.1 0 j 6)).1 10)) (hrm ((sProm1 x a t (nI b) (x.1 0 j 5) (x.1 0 j 6)).2 0)) (hrm ((sProm1 x a t (nI b) (x.1 0 j 5) (x.1 0 j 6)).2 1)) (sq 4 ((sProm1 x a t (nI b) (x.1 0 j 5) (x.1 0 j 6)).1 11)) ((sProm1 x a t (nI b) (x.1 0 j 5) (x.1 0 j 6)).1 12 0 0) ((sProm1 x a t (nI b) (x.1 0 j 5) (x.1 0 j 6)).1 12 0 1)) = (wM qm cI cZ n S P (put (sProm1 x a t (nI b) (x.1 0 j 5) (x.1 0 j 6)) 1 a t (nI 2))) := rfl
        rw [hW2] at hP hD
        have hY0 : (put (sProm1 x a t (nI b) (x.1 0 j 5) (x.1 0 j 6)) 1 a t (nI 2)).1 0 = x.1 0 := (put_o (by decide)).trans (prom1_o (by decide) (by decide) (by decide) (by decide))
        have hY2 : (put (sProm1 x a t (nI b) (x.1 0 j 5) (x.1 0 j 6)) 1 a t (nI 2)).1 2 = x.1 2 := (put_o (by decide)).trans (prom1_o (by decide) (by decide) (by decide) (by decide))
        have hIp := Inv_prom1 (a := a) (t := t) (c := b) (v := x.1 0 j 5) (o := x.1 0 j 6) hIn (by omega) hv0
        have hbest := hIp.2.2.2.1.2.1 a t (by rw [prom1_o (by decide) (by decide) (by decide) (by decide), h18.1]; decide)
        refine lv_aload_n hx hb dModel_promise_98 rfl (lv_at hl 1 rfl) ?_
        refine lv_iconst (v := nI 3) hx hb dModel_promise_99 (by decide) ?_
        refine lv_aload_n hx hb dModel_promise_100 rfl (lv_at hl 1 rfl) ?_
        refine va_get (D := D) (ci := 5) (v := .ref (qm 4)) (C := RModel) (T := TModel) (N := 25) hx hb hts (fun w h => mc (uModel_in w h)) hown hK hP 0 rfl rfl 6 (by decide) (hts _ (mc wd411)) (fun _ h9 => h9) rfl dModel_promise_101 ?_
        refine lv_iload_n hx hb dModel_promise_104 rfl (lv_at hl 2 rfl) ?_
        refine ka_ld (v := nI a) hx hb hK hP 4 0 rfl rfl (by omega) (by omega) (by rw [hY0]; exact hrc) dModel_promise_105 ?_
        refine lv_aload_n hx hb dModel_promise_106 rfl (lv_at hl 1 rfl) ?_
        refine va_get (D := D) (ci := 5) (v := .ref (qm 5)) (C := RModel) (T := TModel) (N := 25) hx hb hts (fun w h => mc (uModel_in w h)) hown hK hP 0 rfl rfl 7 (by decide) (hts _ (mc wd412)) (fun _ h9 => h9) rfl dModel_promise_107 ?_
        refine lv_iload_n hx hb dModel_promise_110 rfl (lv_at hl 2 rfl) ?_
        refine ka_ld (v := nI t) hx hb hK hP 5 0 rfl rfl (by omega) (by omega) (by rw [hY0]; exact hsl) dModel_promise_111 ?_
        refine lv_aload_n hx hb dModel_promise_112 rfl (lv_at hl 1 rfl) ?_
        refine va_get (D := D) (ci := 5) (v := .ref (qm 9)) (C := RModel) (T := TModel) (N := 25) hx hb hts (fun w h => mc (uModel_in w h)) hown hK hP 0 rfl rfl 11 (by decide) (hts _ (mc wd416)) (fun _ h9 => h9) rfl dModel_promise_113 ?_
        refine lv_iload_n hx hb dModel_promise_116 rfl (lv_at hl 0 rfl) ?_
        refine ka_ld (v := x.1 0 j 4) hx hb hK hP 9 0 rfl rfl (by omega) (by omega) (by rw [sq_at (by omega), hY2]; exact h18.2) dModel_promise_117 ?_
        refine lv_aload_n hx hb dModel_promise_118 rfl (lv_at hl 1 rfl) ?_
        refine va_get (D := D) (ci := 5) (v := .ref (qm 13)) (C := RModel) (T := TModel) (N := 25) hx hb hts (fun w h => mc (uModel_in w h)) hown hK hP 0 rfl rfl 15 (by decide) (hts _ (mc wd420)) (fun _ h9 => h9) rfl dModel_promise_119 ?_
        refine lv_iload_n hx hb dModel_promise_122 rfl (lv_at hl 0 rfl) ?_
        refine ka_ld (v := (put (sProm1 x a t (nI b) (x.1 0 j 5) (x.1 0 j 6)) 1 a t (nI 2)).1 4 a t) hx hb hK hP 13 0 rfl rfl (by omega) (by omega) (sq_at (by omega)) dModel_promise_123 ?_
        refine lv_if_ge (tgt := 136) hx hb dModel_promise_124 (by decide) (fun c124 => ?_) (fun c124 => ?_)
        · refine lv_aload_n hx hb dModel_promise_136 rfl (lv_at hl 1 rfl) ?_
          refine va_get (D := D) (ci := 5) (v := .ref (qm 14)) (C := RModel) (T := TModel) (N := 25) hx hb hts (fun w h => mc (uModel_in w h)) hown hK hP 0 rfl rfl 16 (by decide) (hts _ (mc wd421)) (fun _ h9 => h9) rfl dModel_promise_137 ?_
          refine lv_iload_n hx hb dModel_promise_140 rfl (lv_at hl 0 rfl) ?_
          refine ka_ld (v := (put (sProm1 x a t (nI b) (x.1 0 j 5) (x.1 0 j 6)) 1 a t (nI 2)).1 7 a t) hx hb hK hP 14 0 rfl rfl (by omega) (by omega) (sq_at (by omega)) dModel_promise_141 ?_
          refine lv_topi (nm_r (show (put (sProm1 x a t (nI b) (x.1 0 j 5) (x.1 0 j 6)) 1 a t (nI 2)).1 7 a t = (sProm1 x a t (nI b) (x.1 0 j 5) (x.1 0 j 6)).1 5 a t by rw [hbest, if_neg (show ¬ (sProm1 x a t (nI b) (x.1 0 j 5) (x.1 0 j 6)).1 4 a t < 0 from Int32.not_lt.mpr c124)]; rfl) ?_)
          have hPc := hP.sub (ws' := (wM qm cI cZ n S P (put (sProm1 x a t (nI b) (x.1 0 j 5) (x.1 0 j 6)) 1 a t (nI 2)))) [0, 1, 2, 3, 4, 5, 6, 7, 8, 9, 10, 11, 12, 13, 14, 15, 16, 17, 18, 19, 20] rfl
          have hDc := hD.sub (ws' := (wM qm cI cZ n S P (put (sProm1 x a t (nI b) (x.1 0 j 5) (x.1 0 j 6)) 1 a t (nI 2)))) [0, 1, 2, 3, 4, 5, 6, 7, 8, 9, 10, 11, 12, 13, 14, 15, 16, 17, 18, 19, 20] (by decide) rfl
          refine kx_v (va_runV (As := [.int (nI 3), .int (nI a), .int (nI t), .int (x.1 0 j 4), .int ((sProm1 x a t (nI b) (x.1 0 j 5) (x.1 0 j 6)).1 5 a t)]) (rest := []) ⟨hx, hb, hml, hown, hts⟩ ((m_sendAll l D cI cZ qm n S P (put (sProm1 x a t (nI b) (x.1 0 j 5) (x.1 0 j 6)) 1 a t (nI 2)) (nI 3) (nI a) (nI t) (x.1 0 j 4) ((sProm1 x a t (nI b) (x.1 0 j 5) (x.1 0 j 6)).1 5 a t) (hn1) (hn5) (hS1) (hS4) (hP5) (hP64) (Imsg_c hY0 hIn.1) (fun j9 hj9 => ⟨3, a, j9, t, by decide, by decide, ha, hj9, ht, rfl, rfl, rfl, rfl, hIp.2.2.1.1 a t⟩) (by rw [cnt_prom]; exact hroom2 h18 (by rw [hpo]; exact h85))) H.size) (cwV 5 hts (gV wd498 wd500 sl_Model_sendAll wd7 wd501) rfl rfl rfl (by decide +kernel) ⟨Nat.le_of_ble_eq_true rfl, Nat.le_of_ble_eq_true rfl⟩) ⟨fb_PW, va_recv (q0 := 0) (ci := 5) hK hPc rfl rfl, pre_PW hK hPc hDc hZ⟩ rfl rfl hl.1 rfl (lv_room (Nat.le_of_ble_eq_true rfl)) dModel_promise_142 ⟨Nat.zero_le _, Nat.zero_le _⟩) hP hD hS hA [0, 1, 2, 3, 4, 5, 6, 7, 8, 9, 10, 11, 12, 13, 14, 15, 16, 17, 18, 19, 20] [] rfl rfl (by decide) (by decide) (fun w1 H locs hw hP hD hS => ?_)
          obtain rfl := hw
          have hP : va_P D vwCl (wM qm cI cZ n S P (sendA P (put (sProm1 x a t (nI b) (x.1 0 j 5) (x.1 0 j 6)) 1 a t (nI 2)) (nI 3) (nI a) (nI t) (x.1 0 j 4) ((sProm1 x a t (nI b) (x.1 0 j 5) (x.1 0 j 6)).1 5 a t) n)) H := hP
          have hD : va_D A (wM qm cI cZ n S P (sendA P (put (sProm1 x a t (nI b) (x.1 0 j 5) (x.1 0 j 6)) 1 a t (nI 2)) (nI 3) (nI a) (nI t) (x.1 0 j 4) ((sProm1 x a t (nI b) (x.1 0 j 5) (x.1 0 j 6)).1 5 a t) n)) := hD
          exact W.vret hx hb hr (fun t9 ht9 hW9 => ⟨⟨(wM qm cI cZ n S P (sendA P (put (sProm1 x a t (nI b) (x.1 0 j 5) (x.1 0 j 6)) 1 a t (nI 2)) (nI 3) (nI a) (nI t) (x.1 0 j 4) ((sProm1 x a t (nI b) (x.1 0 j 5) (x.1 0 j 6)).1 5 a t) n)), rfl, by rw [sTake_2, if_pos h18, hpo, if_pos h85], by rw [ht9]; exact hP, va_K.moved hW9.alike hK, hD⟩, hS.F ht9⟩) hS.2.2 dModel_promise_145
        · refine lv_aload_n hx hb dModel_promise_127 rfl (lv_at hl 1 rfl) ?_
          refine va_get (D := D) (ci := 5) (v := .ref (qm 11)) (C := RModel) (T := TModel) (N := 25) hx hb hts (fun w h => mc (uModel_in w h)) hown hK hP 0 rfl rfl 13 (by decide) (hts _ (mc wd418)) (fun _ h9 => h9) rfl dModel_promise_128 ?_
          refine lv_iload_n hx hb dModel_promise_131 rfl (lv_at hl 0 rfl) ?_
          refine ka_ld (v := (put (sProm1 x a t (nI b) (x.1 0 j 5) (x.1 0 j 6)) 1 a t (nI 2)).1 6 a t) hx hb hK hP 11 0 rfl rfl (by omega) (by omega) (sq_at (by omega)) dModel_promise_132 ?_
          refine lv_goto (tgt := 142) hx hb dModel_promise_133 (by decide) ?_
          refine lv_topi (nm_r (show (put (sProm1 x a t (nI b) (x.1 0 j 5) (x.1 0 j 6)) 1 a t (nI 2)).1 6 a t = (sProm1 x a t (nI b) (x.1 0 j 5) (x.1 0 j 6)).1 5 a t by rw [hbest, if_pos (show (sProm1 x a t (nI b) (x.1 0 j 5) (x.1 0 j 6)).1 4 a t < 0 from Int32.not_le.mp c124)]; rfl) ?_)
          have hPc := hP.sub (ws' := (wM qm cI cZ n S P (put (sProm1 x a t (nI b) (x.1 0 j 5) (x.1 0 j 6)) 1 a t (nI 2)))) [0, 1, 2, 3, 4, 5, 6, 7, 8, 9, 10, 11, 12, 13, 14, 15, 16, 17, 18, 19, 20] rfl
          have hDc := hD.sub (ws' := (wM qm cI cZ n S P (put (sProm1 x a t (nI b) (x.1 0 j 5) (x.1 0 j 6)) 1 a t (nI 2)))) [0, 1, 2, 3, 4, 5, 6, 7, 8, 9, 10, 11, 12, 13, 14, 15, 16, 17, 18, 19, 20] (by decide) rfl
          refine kx_v (va_runV (As := [.int (nI 3), .int (nI a), .int (nI t), .int (x.1 0 j 4), .int ((sProm1 x a t (nI b) (x.1 0 j 5) (x.1 0 j 6)).1 5 a t)]) (rest := []) ⟨hx, hb, hml, hown, hts⟩ ((m_sendAll l D cI cZ qm n S P (put (sProm1 x a t (nI b) (x.1 0 j 5) (x.1 0 j 6)) 1 a t (nI 2)) (nI 3) (nI a) (nI t) (x.1 0 j 4) ((sProm1 x a t (nI b) (x.1 0 j 5) (x.1 0 j 6)).1 5 a t) (hn1) (hn5) (hS1) (hS4) (hP5) (hP64) (Imsg_c hY0 hIn.1) (fun j9 hj9 => ⟨3, a, j9, t, by decide, by decide, ha, hj9, ht, rfl, rfl, rfl, rfl, hIp.2.2.1.1 a t⟩) (by rw [cnt_prom]; exact hroom2 h18 (by rw [hpo]; exact h85))) H.size) (cwV 5 hts (gV wd498 wd500 sl_Model_sendAll wd7 wd501) rfl rfl rfl (by decide +kernel) ⟨Nat.le_of_ble_eq_true rfl, Nat.le_of_ble_eq_true rfl⟩) ⟨fb_PW, va_recv (q0 := 0) (ci := 5) hK hPc rfl rfl, pre_PW hK hPc hDc hZ⟩ rfl rfl hl.1 rfl (lv_room (Nat.le_of_ble_eq_true rfl)) dModel_promise_142 ⟨Nat.zero_le _, Nat.zero_le _⟩) hP hD hS hA [0, 1, 2, 3, 4, 5, 6, 7, 8, 9, 10, 11, 12, 13, 14, 15, 16, 17, 18, 19, 20] [] rfl rfl (by decide) (by decide) (fun w1 H locs hw hP hD hS => ?_)
          obtain rfl := hw
          have hP : va_P D vwCl (wM qm cI cZ n S P (sendA P (put (sProm1 x a t (nI b) (x.1 0 j 5) (x.1 0 j 6)) 1 a t (nI 2)) (nI 3) (nI a) (nI t) (x.1 0 j 4) ((sProm1 x a t (nI b) (x.1 0 j 5) (x.1 0 j 6)).1 5 a t) n)) H := hP
          have hD : va_D A (wM qm cI cZ n S P (sendA P (put (sProm1 x a t (nI b) (x.1 0 j 5) (x.1 0 j 6)) 1 a t (nI 2)) (nI 3) (nI a) (nI t) (x.1 0 j 4) ((sProm1 x a t (nI b) (x.1 0 j 5) (x.1 0 j 6)).1 5 a t) n)) := hD
          exact W.vret hx hb hr (fun t9 ht9 hW9 => ⟨⟨(wM qm cI cZ n S P (sendA P (put (sProm1 x a t (nI b) (x.1 0 j 5) (x.1 0 j 6)) 1 a t (nI 2)) (nI 3) (nI a) (nI t) (x.1 0 j 4) ((sProm1 x a t (nI b) (x.1 0 j 5) (x.1 0 j 6)).1 5 a t) n)), rfl, by rw [sTake_2, if_pos h18, hpo, if_pos h85], by rw [ht9]; exact hP, va_K.moved hW9.alike hK, hD⟩, hS.F ht9⟩) hS.2.2 dModel_promise_145
      · have hP : va_P D vwCl (wM qm cI cZ n S P (sProm1 x a t (nI b) (x.1 0 j 5) (x.1 0 j 6))) H := hP
        have hD : va_D A (wM qm cI cZ n S P (sProm1 x a t (nI b) (x.1 0 j 5) (x.1 0 j 6))) := hD
        refine lv_if_eq (tgt := 145) hx hb dModel_promise_88 (by decide) (fun _ => ?_) (fun h9 => absurd (by decide) h9)
        exact W.vret hx hb hr (fun t9 ht9 hW9 => ⟨⟨(wM qm cI cZ n S P (sProm1 x a t (nI b) (x.1 0 j 5) (x.1 0 j 6))), rfl, by rw [sTake_2, if_pos h18, hpo, if_neg h85], by rw [ht9]; exact hP, va_K.moved hW9.alike hK, hD⟩, hS.F ht9⟩) hS.2.2 dModel_promise_145
    · refine lv_aload_n hx hb dModel_promise_51 rfl (lv_at hl 1 rfl) ?_
      refine va_get (D := D) (ci := 5) (v := .ref (qm 13)) (C := RModel) (T := TModel) (N := 25) hx hb hts (fun w h => mc (uModel_in w h)) hown hK hP 0 rfl rfl 15 (by decide) (hts _ (mc wd420)) (fun _ h9 => h9) rfl dModel_promise_52 ?_
      refine lv_iload_n hx hb dModel_promise_55 rfl (lv_at hl 0 rfl) ?_
      refine lv_aload_n hx hb dModel_promise_56 rfl (lv_at hl 1 rfl) ?_
      refine va_get (D := D) (ci := 5) (v := .ref (qm 8)) (C := RModel) (T := TModel) (N := 25) hx hb hts (fun w h => mc (uModel_in w h)) hown hK hP 0 rfl rfl 10 (by decide) (hts _ (mc wd415)) (fun _ h9 => h9) rfl dModel_promise_57 ?_
      refine lv_iload_n hx hb dModel_promise_60 rfl (lv_at hl 2 rfl) ?_
      refine ka_ld (v := x.1 0 j 6) hx hb hK hP 8 0 rfl rfl (by omega) (by omega) rfl dModel_promise_61 ?_
      refine ka_st (f' := sq 4 (up2 (x.1 4) a t (x.1 0 j 6))) hx hb hK hP hD hS 13 0 rfl rfl (by omega) (by omega) (sq_up (by omega)) dModel_promise_62 (fun H locs hP hD hS => ?_)
      have hP : va_P D vwCl (wR qm cI cZ n S P (col (x.1 13) 0) (col (x.1 0) 0) (col (x.1 0) 1) (col (x.1 0) 2) (col (x.1 0) 3) (col (x.1 0) 4) (col (x.1 0) 5) (col (x.1 0) 6) (sq 4 (x.1 2)) (sq 4 (x.1 1)) (sq 4 (x.1 6)) (sq 4 (up2 (x.1 3) a t (orb (x.1 3 a t) (nI b)))) (sq 4 (up2 (x.1 4) a t (x.1 0 j 6))) (sq 4 (x.1 7)) (sq 4 (x.1 8)) (sq 4 (x.1 9)) (sq 4 (x.1 10)) (hrm (x.2 0)) (hrm (x.2 1)) (sq 4 (x.1 11)) (x.1 12 0 0) (x.1 12 0 1)) H := hP
      have hD : va_D A (wR qm cI cZ n S P (col (x.1 13) 0) (col (x.1 0) 0) (col (x.1 0) 1) (col (x.1 0) 2) (col (x.1 0) 3) (col (x.1 0) 4) (col (x.1 0) 5) (col (x.1 0) 6) (sq 4 (x.1 2)) (sq 4 (x.1 1)) (sq 4 (x.1 6)) (sq 4 (up2 (x.1 3) a t (orb (x.1 3 a t) (nI b)))) (sq 4 (up2 (x.1 4) a t (x.1 0 j 6))) (sq 4 (x.1 7)) (sq 4 (x.1 8)) (sq 4 (x.1 9)) (sq 4 (x.1 10)) (hrm (x.2 0)) (hrm (x.2 1)) (sq 4 (x.1 11)) (x.1 12 0 0) (x.1 12 0 1)) := hD
      refine lv_aload_n hx hb dModel_promise_63 rfl (lv_at hl 1 rfl) ?_
      refine va_get (D := D) (ci := 5) (v := .ref (qm 14)) (C := RModel) (T := TModel) (N := 25) hx hb hts (fun w h => mc (uModel_in w h)) hown hK hP 0 rfl rfl 16 (by decide) (hts _ (mc wd421)) (fun _ h9 => h9) rfl dModel_promise_64 ?_
      refine lv_iload_n hx hb dModel_promise_67 rfl (lv_at hl 0 rfl) ?_
      refine lv_aload_n hx hb dModel_promise_68 rfl (lv_at hl 1 rfl) ?_
      refine va_get (D := D) (ci := 5) (v := .ref (qm 7)) (C := RModel) (T := TModel) (N := 25) hx hb hts (fun w h => mc (uModel_in w h)) hown hK hP 0 rfl rfl 9 (by decide) (hts _ (mc wd414)) (fun _ h9 => h9) rfl dModel_promise_69 ?_
      refine lv_iload_n hx hb dModel_promise_72 rfl (lv_at hl 2 rfl) ?_
      refine ka_ld (v := x.1 0 j 5) hx hb hK hP 7 0 rfl rfl (by omega) (by omega) rfl dModel_promise_73 ?_
      refine ka_st (f' := sq 4 (up2 (x.1 7) a t (x.1 0 j 5))) hx hb hK hP hD hS 14 0 rfl rfl (by omega) (by omega) (sq_up (by omega)) dModel_promise_74 (fun H locs hP hD hS => ?_)
      have hP : va_P D vwCl (wR qm cI cZ n S P (col (x.1 13) 0) (col (x.1 0) 0) (col (x.1 0) 1) (col (x.1 0) 2) (col (x.1 0) 3) (col (x.1 0) 4) (col (x.1 0) 5) (col (x.1 0) 6) (sq 4 (x.1 2)) (sq 4 (x.1 1)) (sq 4 (x.1 6)) (sq 4 (up2 (x.1 3) a t (orb (x.1 3 a t) (nI b)))) (sq 4 (up2 (x.1 4) a t (x.1 0 j 6))) (sq 4 (up2 (x.1 7) a t (x.1 0 j 5))) (sq 4 (x.1 8)) (sq 4 (x.1 9)) (sq 4 (x.1 10)) (hrm (x.2 0)) (hrm (x.2 1)) (sq 4 (x.1 11)) (x.1 12 0 0) (x.1 12 0 1)) H := hP
      have hD : va_D A (wR qm cI cZ n S P (col (x.1 13) 0) (col (x.1 0) 0) (col (x.1 0) 1) (col (x.1 0) 2) (col (x.1 0) 3) (col (x.1 0) 4) (col (x.1 0) 5) (col (x.1 0) 6) (sq 4 (x.1 2)) (sq 4 (x.1 1)) (sq 4 (x.1 6)) (sq 4 (up2 (x.1 3) a t (orb (x.1 3 a t) (nI b)))) (sq 4 (up2 (x.1 4) a t (x.1 0 j 6))) (sq 4 (up2 (x.1 7) a t (x.1 0 j 5))) (sq 4 (x.1 8)) (sq 4 (x.1 9)) (sq 4 (x.1 10)) (hrm (x.2 0)) (hrm (x.2 1)) (sq 4 (x.1 11)) (x.1 12 0 0) (x.1 12 0 1)) := hD
      refine lv_aload_n hx hb dModel_promise_75 rfl (lv_at hl 1 rfl) ?_
      refine lv_aload_n hx hb dModel_promise_76 rfl (lv_at hl 1 rfl) ?_
      refine va_get (D := D) (ci := 5) (v := .ref (qm 12)) (C := RModel) (T := TModel) (N := 25) hx hb hts (fun w h => mc (uModel_in w h)) hown hK hP 0 rfl rfl 14 (by decide) (hts _ (mc wd419)) (fun _ h9 => h9) rfl dModel_promise_77 ?_
      refine lv_iload_n hx hb dModel_promise_80 rfl (lv_at hl 0 rfl) ?_
      refine ka_ld (v := (up2 (x.1 3) a t (orb (x.1 3 a t) (nI b))) a t) hx hb hK hP 12 0 rfl rfl (by omega) (by omega) (sq_at (by omega)) dModel_promise_81 ?_
      refine lv_topi (nm_r (up2_s) ?_)
      refine lv_topi (nm_r (show orb (x.1 3 a t) (nI b) = nI (e1 ||| 2 ^ b) by rw [he2]; exact hE.1) ?_)
      have hPc := hP.sub (ws' := ([] : va_W)) [] rfl
      have hDc := hD.sub (ws' := ([] : va_W)) [] (by decide) rfl
      refine kx_i (va_runS (As := [.int (nI (e1 ||| 2 ^ b))]) (rest := [.ref (qm 0)]) ⟨hx, hb, hml, hown, hts⟩ ((m_bits l D cI cZ (e1 ||| 2 ^ b) (hE.2)) H.size) (va_cwS 1 hts (gS wd526 wd527 wd7 wd528) rfl rfl rfl (by decide +kernel) ⟨Nat.le_of_ble_eq_true rfl, Nat.le_of_ble_eq_true rfl⟩) ⟨fb_PW, pre_PW hK hPc hDc hZ⟩ rfl rfl hl.1 rfl (lv_room (Nat.le_of_ble_eq_true rfl)) dModel_promise_82 ⟨Nat.zero_le _, Nat.zero_le _⟩) hP hD hS hA [] [0, 1, 2, 3, 4, 5, 6, 7, 8, 9, 10, 11, 12, 13, 14, 15, 16, 17, 18, 19, 20] rfl rfl (by decide) (by decide) (fun r w1 H locs hw hP hD hS => ?_)
      obtain ⟨rfl, rfl⟩ := hw
      have hP : va_P D vwCl (wR qm cI cZ n S P (col (x.1 13) 0) (col (x.1 0) 0) (col (x.1 0) 1) (col (x.1 0) 2) (col (x.1 0) 3) (col (x.1 0) 4) (col (x.1 0) 5) (col (x.1 0) 6) (sq 4 (x.1 2)) (sq 4 (x.1 1)) (sq 4 (x.1 6)) (sq 4 (up2 (x.1 3) a t (orb (x.1 3 a t) (nI b)))) (sq 4 (up2 (x.1 4) a t (x.1 0 j 6))) (sq 4 (up2 (x.1 7) a t (x.1 0 j 5))) (sq 4 (x.1 8)) (sq 4 (x.1 9)) (sq 4 (x.1 10)) (hrm (x.2 0)) (hrm (x.2 1)) (sq 4 (x.1 11)) (x.1 12 0 0) (x.1 12 0 1)) H := hP
      have hD : va_D A (wR qm cI cZ n S P (col (x.1 13) 0) (col (x.1 0) 0) (col (x.1 0) 1) (col (x.1 0) 2) (col (x.1 0) 3) (col (x.1 0) 4) (col (x.1 0) 5) (col (x.1 0) 6) (sq 4 (x.1 2)) (sq 4 (x.1 1)) (sq 4 (x.1 6)) (sq 4 (up2 (x.1 3) a t (orb (x.1 3 a t) (nI b)))) (sq 4 (up2 (x.1 4) a t (x.1 0 j 6))) (sq 4 (up2 (x.1 7) a t (x.1 0 j 5))) (sq 4 (x.1 8)) (sq 4 (x.1 9)) (sq 4 (x.1 10)) (hrm (x.2 0)) (hrm (x.2 1)) (sq 4 (x.1 11)) (x.1 12 0 0) (x.1 12 0 1)) := hD
      have hW3 : (wR qm cI cZ n S P (col (x.1 13) 0) (col (x.1 0) 0) (col (x.1 0) 1) (col (x.1 0) 2) (col (x.1 0) 3) (col (x.1 0) 4) (col (x.1 0) 5) (col (x.1 0) 6) (sq 4 (x.1 2)) (sq 4 (x.1 1)) (sq 4 (x.1 6)) (sq 4 (up2 (x.1 3) a t (orb (x.1 3 a t) (nI b)))) (sq 4 (up2 (x.1 4) a t (x.1 0 j 6))) (sq 4 (up2 (x.1 7) a t (x.1 0 j 5))) (sq 4 (x.1 8)) (sq 4 (x.1 9)) (sq 4 (x.1 10)) (hrm (x.2 0)) (hrm (x.2 1)) (sq 4 (x.1 11)) (x.1 12 0 0) (x.1 12 0 1)) = (wM qm cI cZ n S P (sProm1 x a t (nI b) (x.1 0 j 5) (x.1 0 j 6))) := by unfold sProm1; rw [if_pos (Int32.not_le.mp c48)]; rfl
      rw [hW3] at hP hD
      have hPc := hP.sub (ws' := (wM qm cI cZ n S P (sProm1 x a t (nI b) (x.1 0 j 5) (x.1 0 j 6)))) [0, 1, 2, 3, 4, 5, 6, 7, 8, 9, 10, 11, 12, 13, 14, 15, 16, 17, 18, 19, 20] rfl
      have hDc := hD.sub (ws' := (wM qm cI cZ n S P (sProm1 x a t (nI b) (x.1 0 j 5) (x.1 0 j 6)))) [0, 1, 2, 3, 4, 5, 6, 7, 8, 9, 10, 11, 12, 13, 14, 15, 16, 17, 18, 19, 20] (by decide) rfl
      refine kx_i (va_runV (As := [.int (nI (popn (e1 ||| 2 ^ b)))]) (rest := []) ⟨hx, hb, hml, hown, hts⟩ ((m_isMajority l D cI cZ qm n S P (sProm1 x a t (nI b) (x.1 0 j 5) (x.1 0 j 6)) (popn (e1 ||| 2 ^ b)) (hn1) (hn5) (hS1) (hS4) (hP5) (hP64) (popn_le _)) H.size) (cwV 1 hts (gV wd529 wd531 sl_Model_isMajority wd7 wd532) rfl rfl rfl (by decide +kernel) ⟨Nat.le_of_ble_eq_true rfl, Nat.le_of_ble_eq_true rfl⟩) ⟨fb_PW, va_recv (q0 := 0) (ci := 5) hK hPc rfl rfl, pre_PW hK hPc hDc hZ⟩ rfl rfl hl.1 rfl (lv_room (Nat.le_of_ble_eq_true rfl)) dModel_promise_85 ⟨Nat.zero_le _, Nat.zero_le _⟩) hP hD hS hA [0, 1, 2, 3, 4, 5, 6, 7, 8, 9, 10, 11, 12, 13, 14, 15, 16, 17, 18, 19, 20] [] rfl rfl (by decide) (by decide) (fun r w1 H locs hw hP hD hS => ?_)
      rcases hw with ⟨rfl, h85, rfl⟩ | ⟨rfl, h85, rfl⟩
      · have hP : va_P D vwCl (wM qm cI cZ n S P (sProm1 x a t (nI b) (x.1 0 j 5) (x.1 0 j 6))) H := hP
        have hD : va_D A (wM qm cI cZ n S P (sProm1 x a t (nI b) (x.1 0 j 5) (x.1 0 j 6))) := hD
        refine lv_if_eq (tgt := 145) hx hb dModel_promise_88 (by decide) (fun h9 => absurd h9 (by decide)) (fun _ => ?_)
        refine lv_aload_n hx hb dModel_promise_91 rfl (lv_at hl 1 rfl) ?_
        refine va_get (D := D) (ci := 5) (v := .ref (qm 10)) (C := RModel) (T := TModel) (N := 25) hx hb hts (fun w h => mc (uModel_in w h)) hown hK hP 0 rfl rfl 12 (by decide) (hts _ (mc wd417)) (fun _ h9 => h9) rfl dModel_promise_92 ?_
        refine lv_iload_n hx hb dModel_promise_95 rfl (lv_at hl 0 rfl) ?_
        refine lv_iconst (v := nI 2) hx hb dModel_promise_96 (by decide) ?_
        refine ka_st (f' := sq 4 (up2 ((sProm1 x a t (nI b) (x.1 0 j 5) (x.1 0 j 6)).1 1) a t (nI 2))) hx hb hK hP hD hS 10 0 rfl rfl (by omega) (by omega) (sq_up (by omega)) dModel_promise_97 (fun H locs hP hD hS => ?_)
        have hP : va_P D vwCl (wR qm cI cZ n S P (col ((sProm1 x a t (nI b) (x.1 0 j 5) (x.1 0 j 6)).1 13) 0) (col ((sProm1 x a t (nI b) (x.1 0 j 5) (x.1 0 j 6)).1 0) 0) (col ((sProm1 x a t (nI b) (x.1 0 j 5) (x.1 0 j 6)).1 0) 1) (col ((sProm1 x a t (nI b) (x.1 0 j 5) (x.1 0 j 6)).1 0) 2) (col ((sProm1 x a t (nI b) (x.1 0 j 5) (x.1 0 j 6)).1 0) 3) (col ((sProm1 x a t (nI b) (x.1 0 j 5) (x.1 0 j 6)).1 0) 4) (col ((sProm1 x a t (nI b) (x.1 0 j 5) (x.1 0 j 6)).1 0) 5) (col ((sProm1 x a t (nI b) (x.1 0 j 5) (x.1 0 j 6)).1 0) 6) (sq 4 ((sProm1 x a t (nI b) (x.1 0 j 5) (x.1 0 j 6)).1 2)) (sq 4 (up2 ((sProm1 x a t (nI b) (x.1 0 j 5) (x.1 0 j 6)).1 1) a t (nI 2))) (sq 4 ((sProm1 x a t (nI b) (x.1 0 j 5) (x.1 0 j 6)).1 6)) (sq 4 ((sProm1 x a t (nI b) (x.1 0 j 5) (x.1 0 j 6)).1 3)) (sq 4 ((sProm1 x a t (nI b) (x.1 0 j 5) (x.1 0 j 6)).1 4)) (sq 4 ((sProm1 x a t (nI b) (x.1 0 j 5) (x.1 0 j 6)).1 7)) (sq 4 ((sProm1 x a t (nI b) (x.1 0 j 5) (x.1 0 j 6)).1 8)) (sq 4 ((sProm1 x a t (nI b) (x.1 0 j 5) (x.1 0 j 6)).1 9)) (sq 4 ((sProm1 x a t (nI b) (x.1 0 j 5) (x.1 0 j 6)).1 10)) (hrm ((sProm1 x a t (nI b) (x.1 0 j 5) (x.1 0 j 6)).2 0)) (hrm ((sProm1 x a t (nI b) (x.1 0 j 5) (x.1 0 j 6)).2 1)) (sq 4 ((sProm1 x a t (nI b) (x.1 0 j 5) (x.1 0 j 6)).1 11)) ((sProm1 x a t (nI b) (x.1 0 j 5) (x.1 0 j 6)).1 12 0 0) ((sProm1 x a t (nI b) (x.1 0 j 5) (x.1 0 j 6)).1 12 0 1)) H := hP
        have hD : va_D A (wR qm cI cZ n S P (col ((sProm1 x a t (nI b) (x.1 0 j 5) (x.1 0 j 6)).1 13) 0) (col ((sProm1 x a t (nI b) (x.1 0 j 5) (x.1 0 j 6)).1 0) 0) (col ((sProm1 x a t (nI b) (x.1 0 j 5) (x.1 0 j 6)).1 0) 1) (col ((sProm1 x a t (nI b) (x.1 0 j 5) (x.1 0 j 6)).1 0) 2) (col ((sProm1 x a t (nI b) (x.1 0 j 5) (x.1 0 j 6)).1 0) 3) (col ((sProm1 x a t (nI b) (x.1 0 j 5) (x.1 0 j 6)).1 0) 4) (col ((sProm1 x a t (nI b) (x.1 0 j 5) (x.1 0 j 6)).1 0) 5) (col ((sProm1 x a t (nI b) (x.1 0 j 5) (x.1 0 j 6)).1 0) 6) (sq 4 ((sProm1 x a t (nI b) (x.1 0 j 5) (x.1 0 j 6)).1 2)) (sq 4 (up2 ((sProm1 x a t (nI b) (x.1 0 j 5) (x.1 0 j 6)).1 1) a t (nI 2))) (sq 4 ((sProm1 x a t (nI b) (x.1 0 j 5) (x.1 0 j 6)).1 6)) (sq 4 ((sProm1 x a t (nI b) (x.1 0 j 5) (x.1 0 j 6)).1 3)) (sq 4 ((sProm1 x a t (nI b) (x.1 0 j 5) (x.1 0 j 6)).1 4)) (sq 4 ((sProm1 x a t (nI b) (x.1 0 j 5) (x.1 0 j 6)).1 7)) (sq 4 ((sProm1 x a t (nI b) (x.1 0 j 5) (x.1 0 j 6)).1 8)) (sq 4 ((sProm1 x a t (nI b) (x.1 0 j 5) (x.1 0 j 6)).1 9)) (sq 4 ((sProm1 x a t (nI b) (x.1 0 j 5) (x.1 0 j 6)).1 10)) (hrm ((sProm1 x a t (nI b) (x.1 0 j 5) (x.1 0 j 6)).2 0)) (hrm ((sProm1 x a t (nI b) (x.1 0 j 5) (x.1 0 j 6)).2 1)) (sq 4 ((sProm1 x a t (nI b) (x.1 0 j 5) (x.1 0 j 6)).1 11)) ((sProm1 x a t (nI b) (x.1 0 j 5) (x.1 0 j 6)).1 12 0 0) ((sProm1 x a t (nI b) (x.1 0 j 5) (x.1 0 j 6)).1 12 0 1)) := hD
        have hW4 : (wR qm cI cZ n S P (col ((sProm1 x a t (nI b) (x.1 0 j 5) (x.1 0 j 6)).1 13) 0) (col ((sProm1 x a t (nI b) (x.1 0 j 5) (x.1 0 j 6)).1 0) 0) (col ((sProm1 x a t (nI b) (x.1 0 j 5) (x.1 0 j 6)).1 0) 1) (col ((sProm1 x a t (nI b) (x.1 0 j 5) (x.1 0 j 6)).1 0) 2) (col ((sProm1 x a t (nI b) (x.1 0 j 5) (x.1 0 j 6)).1 0) 3) (col ((sProm1 x a t (nI b) (x.1 0 j 5) (x.1 0 j 6)).1 0) 4) (col ((sProm1 x a t (nI b) (x.1 0 j 5) (x.1 0 j 6)).1 0) 5) (col ((sProm1 x a t (nI b) (x.1 0 j 5) (x.1 0 j 6)).1 0) 6) (sq 4 ((sProm1 x a t (nI b) (x.1 0 j 5) (x.1 0 j 6)).1 2)) (sq 4 (up2 ((sProm1 x a t (nI b) (x.1 0 j 5) (x.1 0 j 6)).1 1) a t (nI 2))) (sq 4 ((sProm1 x a t (nI b) (x.1 0 j 5) (x.1 0 j 6)).1 6)) (sq 4 ((sProm1 x a t (nI b) (x.1 0 j 5) (x.1 0 j 6)).1 3)) (sq 4 ((sProm1 x a t (nI b) (x.1 0 j 5) (x.1 0 j 6)).1 4)) (sq 4 ((sProm1 x a t (nI b) (x.1 0 j 5) (x.1 0 j 6)).1 7)) (sq 4 ((sProm1 x a t (nI b) (x.1 0 j 5) (x.1 0 j 6)).1 8)) (sq 4 ((sProm1 x a t (nI b) (x.1 0 j 5) (x.1 0 j 6)).1 9)) (sq 4 ((sProm1 x a t (nI b) (x.1 0 j 5) (x.1 0 j 6)).1 10)) (hrm ((sProm1 x a t (nI b) (x.1 0 j 5) (x.1 0 j 6)).2 0)) (hrm ((sProm1 x a t (nI b) (x.1 0 j 5) (x.1 0 j 6)).2 1)) (sq 4 ((sProm1 x a t (nI b) (x.1 0 j 5) (x.1 0 j 6)).1 11)) ((sProm1 x a t (nI b) (x.1 0 j 5) (x.1 0 j 6)).1 12 0 0) ((sProm1 x a t (nI b) (x.1 0 j 5) (x.1 0 j 6)).1 12 0 1)) = (wM qm cI cZ n S P (put (sProm1 x a t (nI b) (x.1 0 j 5) (x.1 0 j 6)) 1 a t (nI 2))) := rfl
        rw [hW4] at hP hD
        have hY0 : (put (sProm1 x a t (nI b) (x.1 0 j 5) (x.1 0 j 6)) 1 a t (nI 2)).1 0 = x.1 0 := (put_o (by decide)).trans (prom1_o (by decide) (by decide) (by decide) (by decide))
        have hY2 : (put (sProm1 x a t (nI b) (x.1 0 j 5) (x.1 0 j 6)) 1 a t (nI 2)).1 2 = x.1 2 := (put_o (by decide)).trans (prom1_o (by decide) (by decide) (by decide) (by decide))
        have hIp := Inv_prom1 (a := a) (t := t) (c := b) (v := x.1 0 j 5) (o := x.1 0 j 6) hIn (by omega) hv0
        have hbest := hIp.2.2.2.1.2.1 a t (by rw [prom1_o (by decide) (by decide) (by decide) (by decide), h18.1]; decide)
        refine lv_aload_n hx hb dModel_promise_98 rfl (lv_at hl 1 rfl) ?_
        refine lv_iconst (v := nI 3) hx hb dModel_promise_99 (by decide) ?_
        refine lv_aload_n hx hb dModel_promise_100 rfl (lv_at hl 1 rfl) ?_
        refine va_get (D := D) (ci := 5) (v := .ref (qm 4)) (C := RModel) (T := TModel) (N := 25) hx hb hts (fun w h => mc (uModel_in w h)) hown hK hP 0 rfl rfl 6 (by decide) (hts _ (mc wd411)) (fun _ h9 => h9) rfl dModel_promise_101 ?_
        refine lv_iload_n hx hb dModel_promise_104 rfl (lv_at hl 2 rfl) ?_
        refine ka_ld (v := nI a) hx hb hK hP 4 0 rfl rfl (by omega) (by omega) (by rw [hY0]; exact hrc) dModel_promise_105 ?_
        refine lv_aload_n hx hb dModel_promise_106 rfl (lv_at hl 1 rfl) ?_
        refine va_get (D := D) (ci := 5) (v := .ref (qm 5)) (C := RModel) (T := TModel) (N := 25) hx hb hts (fun w h => mc (uModel_in w h)) hown hK hP 0 rfl rfl 7 (by decide) (hts _ (mc wd412)) (fun _ h9 => h9) rfl dModel_promise_107 ?_
        refine lv_iload_n hx hb dModel_promise_110 rfl (lv_at hl 2 rfl) ?_
        refine ka_ld (v := nI t) hx hb hK hP 5 0 rfl rfl (by omega) (by omega) (by rw [hY0]; exact hsl) dModel_promise_111 ?_
        refine lv_aload_n hx hb dModel_promise_112 rfl (lv_at hl 1 rfl) ?_
        refine va_get (D := D) (ci := 5) (v := .ref (qm 9)) (C := RModel) (T := TModel) (N := 25) hx hb hts (fun w h => mc (uModel_in w h)) hown hK hP 0 rfl rfl 11 (by decide) (hts _ (mc wd416)) (fun _ h9 => h9) rfl dModel_promise_113 ?_
        refine lv_iload_n hx hb dModel_promise_116 rfl (lv_at hl 0 rfl) ?_
        refine ka_ld (v := x.1 0 j 4) hx hb hK hP 9 0 rfl rfl (by omega) (by omega) (by rw [sq_at (by omega), hY2]; exact h18.2) dModel_promise_117 ?_
        refine lv_aload_n hx hb dModel_promise_118 rfl (lv_at hl 1 rfl) ?_
        refine va_get (D := D) (ci := 5) (v := .ref (qm 13)) (C := RModel) (T := TModel) (N := 25) hx hb hts (fun w h => mc (uModel_in w h)) hown hK hP 0 rfl rfl 15 (by decide) (hts _ (mc wd420)) (fun _ h9 => h9) rfl dModel_promise_119 ?_
        refine lv_iload_n hx hb dModel_promise_122 rfl (lv_at hl 0 rfl) ?_
        refine ka_ld (v := (put (sProm1 x a t (nI b) (x.1 0 j 5) (x.1 0 j 6)) 1 a t (nI 2)).1 4 a t) hx hb hK hP 13 0 rfl rfl (by omega) (by omega) (sq_at (by omega)) dModel_promise_123 ?_
        refine lv_if_ge (tgt := 136) hx hb dModel_promise_124 (by decide) (fun c124 => ?_) (fun c124 => ?_)
        · refine lv_aload_n hx hb dModel_promise_136 rfl (lv_at hl 1 rfl) ?_
          refine va_get (D := D) (ci := 5) (v := .ref (qm 14)) (C := RModel) (T := TModel) (N := 25) hx hb hts (fun w h => mc (uModel_in w h)) hown hK hP 0 rfl rfl 16 (by decide) (hts _ (mc wd421)) (fun _ h9 => h9) rfl dModel_promise_137 ?_
          refine lv_iload_n hx hb dModel_promise_140 rfl (lv_at hl 0 rfl) ?_
          refine ka_ld (v := (put (sProm1 x a t (nI b) (x.1 0 j 5) (x.1 0 j 6)) 1 a t (nI 2)).1 7 a t) hx hb hK hP 14 0 rfl rfl (by omega) (by omega) (sq_at (by omega)) dModel_promise_141 ?_
          refine lv_topi (nm_r (show (put (sProm1 x a t (nI b) (x.1 0 j 5) (x.1 0 j 6)) 1 a t (nI 2)).1 7 a t = (sProm1 x a t (nI b) (x.1 0 j 5) (x.1 0 j 6)).1 5 a t by rw [hbest, if_neg (show ¬ (sProm1 x a t (nI b) (x.1 0 j 5) (x.1 0 j 6)).1 4 a t < 0 from Int32.not_lt.mpr c124)]; rfl) ?_)
          have hPc := hP.sub (ws' := (wM qm cI cZ n S P (put (sProm1 x a t (nI b) (x.1 0 j 5) (x.1 0 j 6)) 1 a t (nI 2)))) [0, 1, 2, 3, 4, 5, 6, 7, 8, 9, 10, 11, 12, 13, 14, 15, 16, 17, 18, 19, 20] rfl
          have hDc := hD.sub (ws' := (wM qm cI cZ n S P (put (sProm1 x a t (nI b) (x.1 0 j 5) (x.1 0 j 6)) 1 a t (nI 2)))) [0, 1, 2, 3, 4, 5, 6, 7, 8, 9, 10, 11, 12, 13, 14, 15, 16, 17, 18, 19, 20] (by decide) rfl
          refine kx_v (va_runV (As := [.int (nI 3), .int (nI a), .int (nI t), .int (x.1 0 j 4), .int ((sProm1 x a t (nI b) (x.1 0 j 5) (x.1 0 j 6)).1 5 a t)]) (rest := []) ⟨hx, hb, hml, hown, hts⟩ ((m_sendAll l D cI cZ qm n S P (put (sProm1 x a t (nI b) (x.1 0 j 5) (x.1 0 j 6)) 1 a t (nI 2)) (nI 3) (nI a) (nI t) (x.1 0 j 4) ((sProm1 x a t (nI b) (x.1 0 j 5) (x.1 0 j 6)).1 5 a t) (hn1) (hn5) (hS1) (hS4) (hP5) (hP64) (Imsg_c hY0 hIn.1) (fun j9 hj9 => ⟨3, a, j9, t, by decide, by decide, ha, hj9, ht, rfl, rfl, rfl, rfl, hIp.2.2.1.1 a t⟩) (by rw [cnt_prom]; exact hroom2 h18 (by rw [hpo]; exact h85))) H.size) (cwV 5 hts (gV wd498 wd500 sl_Model_sendAll wd7 wd501) rfl rfl rfl (by decide +kernel) ⟨Nat.le_of_ble_eq_true rfl, Nat.le_of_ble_eq_true rfl⟩) ⟨fb_PW, va_recv (q0 := 0) (ci := 5) hK hPc rfl rfl, pre_PW hK hPc hDc hZ⟩ rfl rfl hl.1 rfl (lv_room (Nat.le_of_ble_eq_true rfl)) dModel_promise_142 ⟨Nat.zero_le _, Nat.zero_le _⟩) hP hD hS hA [0, 1, 2, 3, 4, 5, 6, 7, 8, 9, 10, 11, 12, 13, 14, 15, 16, 17, 18, 19, 20] [] rfl rfl (by decide) (by decide) (fun w1 H locs hw hP hD hS => ?_)
          obtain rfl := hw
          have hP : va_P D vwCl (wM qm cI cZ n S P (sendA P (put (sProm1 x a t (nI b) (x.1 0 j 5) (x.1 0 j 6)) 1 a t (nI 2)) (nI 3) (nI a) (nI t) (x.1 0 j 4) ((sProm1 x a t (nI b) (x.1 0 j 5) (x.1 0 j 6)).1 5 a t) n)) H := hP
          have hD : va_D A (wM qm cI cZ n S P (sendA P (put (sProm1 x a t (nI b) (x.1 0 j 5) (x.1 0 j 6)) 1 a t (nI 2)) (nI 3) (nI a) (nI t) (x.1 0 j 4) ((sProm1 x a t (nI b) (x.1 0 j 5) (x.1 0 j 6)).1 5 a t) n)) := hD
          exact W.vret hx hb hr (fun t9 ht9 hW9 => ⟨⟨(wM qm cI cZ n S P (sendA P (put (sProm1 x a t (nI b) (x.1 0 j 5) (x.1 0 j 6)) 1 a t (nI 2)) (nI 3) (nI a) (nI t) (x.1 0 j 4) ((sProm1 x a t (nI b) (x.1 0 j 5) (x.1 0 j 6)).1 5 a t) n)), rfl, by rw [sTake_2, if_pos h18, hpo, if_pos h85], by rw [ht9]; exact hP, va_K.moved hW9.alike hK, hD⟩, hS.F ht9⟩) hS.2.2 dModel_promise_145
        · refine lv_aload_n hx hb dModel_promise_127 rfl (lv_at hl 1 rfl) ?_
          refine va_get (D := D) (ci := 5) (v := .ref (qm 11)) (C := RModel) (T := TModel) (N := 25) hx hb hts (fun w h => mc (uModel_in w h)) hown hK hP 0 rfl rfl 13 (by decide) (hts _ (mc wd418)) (fun _ h9 => h9) rfl dModel_promise_128 ?_
          refine lv_iload_n hx hb dModel_promise_131 rfl (lv_at hl 0 rfl) ?_
          refine ka_ld (v := (put (sProm1 x a t (nI b) (x.1 0 j 5) (x.1 0 j 6)) 1 a t (nI 2)).1 6 a t) hx hb hK hP 11 0 rfl rfl (by omega) (by omega) (sq_at (by omega)) dModel_promise_132 ?_
          refine lv_goto (tgt := 142) hx hb dModel_promise_133 (by decide) ?_
          refine lv_topi (nm_r (show (put (sProm1 x a t (nI b) (x.1 0 j 5) (x.1 0 j 6)) 1 a t (nI 2)).1 6 a t = (sProm1 x a t (nI b) (x.1 0 j 5) (x.1 0 j 6)).1 5 a t by rw [hbest, if_pos (show (sProm1 x a t (nI b) (x.1 0 j 5) (x.1 0 j 6)).1 4 a t < 0 from Int32.not_le.mp c124)]; rfl) ?_)
          have hPc := hP.sub (ws' := (wM qm cI cZ n S P (put (sProm1 x a t (nI b) (x.1 0 j 5) (x.1 0 j 6)) 1 a t (nI 2)))) [0, 1, 2, 3, 4, 5, 6, 7, 8, 9, 10, 11, 12, 13, 14, 15, 16, 17, 18, 19, 20] rfl
          have hDc := hD.sub (ws' := (wM qm cI cZ n S P (put (sProm1 x a t (nI b) (x.1 0 j 5) (x.1 0 j 6)) 1 a t (nI 2)))) [0, 1, 2, 3, 4, 5, 6, 7, 8, 9, 10, 11, 12, 13, 14, 15, 16, 17, 18, 19, 20] (by decide) rfl
          refine kx_v (va_runV (As := [.int (nI 3), .int (nI a), .int (nI t), .int (x.1 0 j 4), .int ((sProm1 x a t (nI b) (x.1 0 j 5) (x.1 0 j 6)).1 5 a t)]) (rest := []) ⟨hx, hb, hml, hown, hts⟩ ((m_sendAll l D cI cZ qm n S P (put (sProm1 x a t (nI b) (x.1 0 j 5) (x.1 0 j 6)) 1 a t (nI 2)) (nI 3) (nI a) (nI t) (x.1 0 j 4) ((sProm1 x a t (nI b) (x.1 0 j 5) (x.1 0 j 6)).1 5 a t) (hn1) (hn5) (hS1) (hS4) (hP5) (hP64) (Imsg_c hY0 hIn.1) (fun j9 hj9 => ⟨3, a, j9, t, by decide, by decide, ha, hj9, ht, rfl, rfl, rfl, rfl, hIp.2.2.1.1 a t⟩) (by rw [cnt_prom]; exact hroom2 h18 (by rw [hpo]; exact h85))) H.size) (cwV 5 hts (gV wd498 wd500 sl_Model_sendAll wd7 wd501) rfl rfl rfl (by decide +kernel) ⟨Nat.le_of_ble_eq_true rfl, Nat.le_of_ble_eq_true rfl⟩) ⟨fb_PW, va_recv (q0 := 0) (ci := 5) hK hPc rfl rfl, pre_PW hK hPc hDc hZ⟩ rfl rfl hl.1 rfl (lv_room (Nat.le_of_ble_eq_true rfl)) dModel_promise_142 ⟨Nat.zero_le _, Nat.zero_le _⟩) hP hD hS hA [0, 1, 2, 3, 4, 5, 6, 7, 8, 9, 10, 11, 12, 13, 14, 15, 16, 17, 18, 19, 20] [] rfl rfl (by decide) (by decide) (fun w1 H locs hw hP hD hS => ?_)
          obtain rfl := hw
          have hP : va_P D vwCl (wM qm cI cZ n S P (sendA P (put (sProm1 x a t (nI b) (x.1 0 j 5) (x.1 0 j 6)) 1 a t (nI 2)) (nI 3) (nI a) (nI t) (x.1 0 j 4) ((sProm1 x a t (nI b) (x.1 0 j 5) (x.1 0 j 6)).1 5 a t) n)) H := hP
          have hD : va_D A (wM qm cI cZ n S P (sendA P (put (sProm1 x a t (nI b) (x.1 0 j 5) (x.1 0 j 6)) 1 a t (nI 2)) (nI 3) (nI a) (nI t) (x.1 0 j 4) ((sProm1 x a t (nI b) (x.1 0 j 5) (x.1 0 j 6)).1 5 a t) n)) := hD
          exact W.vret hx hb hr (fun t9 ht9 hW9 => ⟨⟨(wM qm cI cZ n S P (sendA P (put (sProm1 x a t (nI b) (x.1 0 j 5) (x.1 0 j 6)) 1 a t (nI 2)) (nI 3) (nI a) (nI t) (x.1 0 j 4) ((sProm1 x a t (nI b) (x.1 0 j 5) (x.1 0 j 6)).1 5 a t) n)), rfl, by rw [sTake_2, if_pos h18, hpo, if_pos h85], by rw [ht9]; exact hP, va_K.moved hW9.alike hK, hD⟩, hS.F ht9⟩) hS.2.2 dModel_promise_145
      · have hP : va_P D vwCl (wM qm cI cZ n S P (sProm1 x a t (nI b) (x.1 0 j 5) (x.1 0 j 6))) H := hP
        have hD : va_D A (wM qm cI cZ n S P (sProm1 x a t (nI b) (x.1 0 j 5) (x.1 0 j 6))) := hD
        refine lv_if_eq (tgt := 145) hx hb dModel_promise_88 (by decide) (fun _ => ?_) (fun h9 => absurd (by decide) h9)
        exact W.vret hx hb hr (fun t9 ht9 hW9 => ⟨⟨(wM qm cI cZ n S P (sProm1 x a t (nI b) (x.1 0 j 5) (x.1 0 j 6))), rfl, by rw [sTake_2, if_pos h18, hpo, if_neg h85], by rw [ht9]; exact hP, va_K.moved hW9.alike hK, hD⟩, hS.F ht9⟩) hS.2.2 dModel_promise_145
  · have hP : va_P D vwCl (wM qm cI cZ n S P x) H := hP
    have hD : va_D A (wM qm cI cZ n S P x) := hD
    refine lv_if_ne (tgt := 25) hx hb dModel_promise_21 (by decide) (fun h9 => absurd (by decide) h9) (fun _ => ?_)
    exact W.vret hx hb hr (fun t9 ht9 hW9 => ⟨⟨(wM qm cI cZ n S P x), rfl, by rw [sTake_2, if_neg h18], by rw [ht9]; exact hP, va_K.moved hW9.alike hK, hD⟩, hS.F ht9⟩) hS.2.2 dModel_promise_24
theorem dModel_hear_0 : decode cModel_hear 0 = .ok (.bipush 20, 2) := by decide +kernel
theorem dModel_hear_2 : decode cModel_hear 2 = .ok (.aload_n 0, 1) := by decide +kernel
theorem dModel_hear_3 : decode cModel_hear 3 = .ok (.getfield 20, 3) := by decide +kernel
theorem dModel_hear_6 : decode cModel_hear 6 = .ok (.iload_n 1, 1) := by decide +kernel
theorem dModel_hear_7 : decode cModel_hear 7 = .ok (.iaload, 1) := by decide +kernel
theorem dModel_hear_8 : decode cModel_hear 8 = .ok (.imul, 1) := by decide +kernel
theorem dModel_hear_9 : decode cModel_hear 9 = .ok (.iconst 5, 1) := by decide +kernel
theorem dModel_hear_10 : decode cModel_hear 10 = .ok (.aload_n 0, 1) := by decide +kernel
theorem dModel_hear_11 : decode cModel_hear 11 = .ok (.getfield 23, 3) := by decide +kernel
theorem dModel_hear_14 : decode cModel_hear 14 = .ok (.iload_n 1, 1) := by decide +kernel
theorem dModel_hear_15 : decode cModel_hear 15 = .ok (.iaload, 1) := by decide +kernel
theorem dModel_hear_16 : decode cModel_hear 16 = .ok (.imul, 1) := by decide +kernel
theorem dModel_hear_17 : decode cModel_hear 17 = .ok (.iadd, 1) := by decide +kernel
theorem dModel_hear_18 : decode cModel_hear 18 = .ok (.istore_n 2, 1) := by decide +kernel
theorem dModel_hear_19 : decode cModel_hear 19 = .ok (.iload_n 2, 1) := by decide +kernel
theorem dModel_hear_20 : decode cModel_hear 20 = .ok (.aload_n 0, 1) := by decide +kernel
theorem dModel_hear_21 : decode cModel_hear 21 = .ok (.getfield 17, 3) := by decide +kernel
theorem dModel_hear_24 : decode cModel_hear 24 = .ok (.iload_n 1, 1) := by decide +kernel
theorem dModel_hear_25 : decode cModel_hear 25 = .ok (.iaload, 1) := by decide +kernel
theorem dModel_hear_26 : decode cModel_hear 26 = .ok (.iadd, 1) := by decide +kernel
theorem dModel_hear_27 : decode cModel_hear 27 = .ok (.istore_n 3, 1) := by decide +kernel
theorem dModel_hear_28 : decode cModel_hear 28 = .ok (.aload_n 0, 1) := by decide +kernel
theorem dModel_hear_29 : decode cModel_hear 29 = .ok (.getfield 26, 3) := by decide +kernel
theorem dModel_hear_32 : decode cModel_hear 32 = .ok (.iload_n 1, 1) := by decide +kernel
theorem dModel_hear_33 : decode cModel_hear 33 = .ok (.iaload, 1) := by decide +kernel
theorem dModel_hear_34 : decode cModel_hear 34 = .ok (.aload_n 0, 1) := by decide +kernel
theorem dModel_hear_35 : decode cModel_hear 35 = .ok (.getfield 62, 3) := by decide +kernel
theorem dModel_hear_38 : decode cModel_hear 38 = .ok (.iload_n 3, 1) := by decide +kernel
theorem dModel_hear_39 : decode cModel_hear 39 = .ok (.iaload, 1) := by decide +kernel
theorem dModel_hear_40 : decode cModel_hear 40 = .ok (.if_icmp .gt 4, 3) := by decide +kernel
theorem dModel_hear_43 : decode cModel_hear 43 = .ok (.return_, 1) := by decide +kernel
theorem dModel_hear_44 : decode cModel_hear 44 = .ok (.aload_n 0, 1) := by decide +kernel
theorem dModel_hear_45 : decode cModel_hear 45 = .ok (.getfield 62, 3) := by decide +kernel
theorem dModel_hear_48 : decode cModel_hear 48 = .ok (.iload_n 3, 1) := by decide +kernel
theorem dModel_hear_49 : decode cModel_hear 49 = .ok (.aload_n 0, 1) := by decide +kernel
theorem dModel_hear_50 : decode cModel_hear 50 = .ok (.getfield 26, 3) := by decide +kernel
theorem dModel_hear_53 : decode cModel_hear 53 = .ok (.iload_n 1, 1) := by decide +kernel
theorem dModel_hear_54 : decode cModel_hear 54 = .ok (.iaload, 1) := by decide +kernel
theorem dModel_hear_55 : decode cModel_hear 55 = .ok (.iastore, 1) := by decide +kernel
theorem dModel_hear_56 : decode cModel_hear 56 = .ok (.aload_n 0, 1) := by decide +kernel
theorem dModel_hear_57 : decode cModel_hear 57 = .ok (.getfield 65, 3) := by decide +kernel
theorem dModel_hear_60 : decode cModel_hear 60 = .ok (.iload_n 3, 1) := by decide +kernel
theorem dModel_hear_61 : decode cModel_hear 61 = .ok (.aload_n 0, 1) := by decide +kernel
theorem dModel_hear_62 : decode cModel_hear 62 = .ok (.getfield 29, 3) := by decide +kernel
theorem dModel_hear_65 : decode cModel_hear 65 = .ok (.iload_n 1, 1) := by decide +kernel
theorem dModel_hear_66 : decode cModel_hear 66 = .ok (.iaload, 1) := by decide +kernel
theorem dModel_hear_67 : decode cModel_hear 67 = .ok (.iastore, 1) := by decide +kernel
theorem dModel_hear_68 : decode cModel_hear 68 = .ok (.iconst 0, 1) := by decide +kernel
theorem dModel_hear_69 : decode cModel_hear 69 = .ok (.istore 4, 2) := by decide +kernel
theorem dModel_hear_71 : decode cModel_hear 71 = .ok (.iconst 0, 1) := by decide +kernel
theorem dModel_hear_72 : decode cModel_hear 72 = .ok (.istore 5, 2) := by decide +kernel
theorem dModel_hear_74 : decode cModel_hear 74 = .ok (.iload 5, 2) := by decide +kernel
theorem dModel_hear_76 : decode cModel_hear 76 = .ok (.aload_n 0, 1) := by decide +kernel
theorem dModel_hear_77 : decode cModel_hear 77 = .ok (.getfield 71, 3) := by decide +kernel
theorem dModel_hear_80 : decode cModel_hear 80 = .ok (.if_icmp .ge 38, 3) := by decide +kernel
theorem dModel_hear_83 : decode cModel_hear 83 = .ok (.aload_n 0, 1) := by decide +kernel
theorem dModel_hear_84 : decode cModel_hear 84 = .ok (.getfield 62, 3) := by decide +kernel
theorem dModel_hear_87 : decode cModel_hear 87 = .ok (.iload_n 2, 1) := by decide +kernel
theorem dModel_hear_88 : decode cModel_hear 88 = .ok (.iload 5, 2) := by decide +kernel
theorem dModel_hear_90 : decode cModel_hear 90 = .ok (.iadd, 1) := by decide +kernel
theorem dModel_hear_91 : decode cModel_hear 91 = .ok (.iaload, 1) := by decide +kernel
theorem dModel_hear_92 : decode cModel_hear 92 = .ok (.aload_n 0, 1) := by decide +kernel
theorem dModel_hear_93 : decode cModel_hear 93 = .ok (.getfield 26, 3) := by decide +kernel
theorem dModel_hear_96 : decode cModel_hear 96 = .ok (.iload_n 1, 1) := by decide +kernel
theorem dModel_hear_97 : decode cModel_hear 97 = .ok (.iaload, 1) := by decide +kernel
theorem dModel_hear_98 : decode cModel_hear 98 = .ok (.if_icmp .ne 10, 3) := by decide +kernel
theorem dModel_hear_101 : decode cModel_hear 101 = .ok (.iload 4, 2) := by decide +kernel
theorem dModel_hear_103 : decode cModel_hear 103 = .ok (.iconst 1, 1) := by decide +kernel
theorem dModel_hear_104 : decode cModel_hear 104 = .ok (.iadd, 1) := by decide +kernel
theorem dModel_hear_105 : decode cModel_hear 105 = .ok (.goto 5, 3) := by decide +kernel
theorem dModel_hear_108 : decode cModel_hear 108 = .ok (.iload 4, 2) := by decide +kernel
theorem dModel_hear_110 : decode cModel_hear 110 = .ok (.istore 4, 2) := by decide +kernel
theorem dModel_hear_112 : decode cModel_hear 112 = .ok (.iinc 5  1, 3) := by decide +kernel
theorem dModel_hear_115 : decode cModel_hear 115 = .ok (.goto (-41), 3) := by decide +kernel
theorem dModel_hear_118 : decode cModel_hear 118 = .ok (.aload_n 0, 1) := by decide +kernel
theorem dModel_hear_119 : decode cModel_hear 119 = .ok (.aload_n 0, 1) := by decide +kernel
theorem dModel_hear_120 : decode cModel_hear 120 = .ok (.getfield 20, 3) := by decide +kernel
theorem dModel_hear_123 : decode cModel_hear 123 = .ok (.iload_n 1, 1) := by decide +kernel
theorem dModel_hear_124 : decode cModel_hear 124 = .ok (.iaload, 1) := by decide +kernel
theorem dModel_hear_125 : decode cModel_hear 125 = .ok (.aload_n 0, 1) := by decide +kernel
theorem dModel_hear_126 : decode cModel_hear 126 = .ok (.getfield 23, 3) := by decide +kernel
theorem dModel_hear_129 : decode cModel_hear 129 = .ok (.iload_n 1, 1) := by decide +kernel
theorem dModel_hear_130 : decode cModel_hear 130 = .ok (.iaload, 1) := by decide +kernel
theorem dModel_hear_131 : decode cModel_hear 131 = .ok (.aload_n 0, 1) := by decide +kernel
theorem dModel_hear_132 : decode cModel_hear 132 = .ok (.iload 4, 2) := by decide +kernel
theorem dModel_hear_134 : decode cModel_hear 134 = .ok (.invokevirtual 110, 3) := by decide +kernel
theorem dModel_hear_137 : decode cModel_hear 137 = .ok (.ifCond .eq 12, 3) := by decide +kernel
theorem dModel_hear_140 : decode cModel_hear 140 = .ok (.aload_n 0, 1) := by decide +kernel
theorem dModel_hear_141 : decode cModel_hear 141 = .ok (.getfield 29, 3) := by decide +kernel
theorem dModel_hear_144 : decode cModel_hear 144 = .ok (.iload_n 1, 1) := by decide +kernel
theorem dModel_hear_145 : decode cModel_hear 145 = .ok (.iaload, 1) := by decide +kernel
theorem dModel_hear_146 : decode cModel_hear 146 = .ok (.goto 4, 3) := by decide +kernel
theorem dModel_hear_149 : decode cModel_hear 149 = .ok (.iconst 0, 1) := by decide +kernel
theorem dModel_hear_150 : decode cModel_hear 150 = .ok (.invokevirtual 113, 3) := by decide +kernel
theorem dModel_hear_153 : decode cModel_hear 153 = .ok (.return_, 1) := by decide +kernel
set_option maxRecDepth 100000 in
set_option maxHeartbeats 4000000 in
theorem m_hear (l : Launch) (D : va_G) (cI cZ : ClassId) (qm : Nat → Nat) (n : Nat) (S : Nat) (P : Nat) (x : St) (j : Nat) (a : Nat) (t : Nat) (b : Nat) (hn1 : 1 ≤ n) (hn5 : n ≤ 5) (hS1 : 1 ≤ S) (hS4 : S ≤ 4) (hP5 : 5 ≤ P) (hP64 : P ≤ 64) (hj : j < 64) (ha : a < n) (ht : t < S) (hbn : b < n) (hrc : x.1 0 j 2 = nI a) (hsl : x.1 0 j 3 = nI t) (hsd : x.1 0 j 1 = nI b) : MV l D [(cI, .int), (cZ, .boolean)] yModel_hear wsModel_hear ({ frames := 1, cells := 0, slots := 0, locals := 24 }) [.ref (qm 0), .int (nI j)] (wM qm cI cZ n S P x) (fun w => w = (wM qm cI cZ n S P (sHear n x a t b (x.1 0 j 4) (x.1 0 j 5)))) := by
  intro sz
  refine Met.ofW (cc := cModel_hear) (maxL := 6) (ret := (Option.none : Option ClassFile.FieldType)) (by decide) rfl ?_
  intro p e s m args below meth c s₁ B hml hv
  obtain ⟨rfl, hsz, hP, hK, hD0, hZ⟩ := hv
  have hx := B.exec
  have hb := B.bytes
  have hr := B.returns
  have hts := atoms_spec (ws := wsModel_hear) B.pre
  have hown : s.vm.findClass RModel = some m.cls := findClass_of_methodNamed B.named
  have hlocks := B.notSynchronized
  subst hsz
  have hD := hD0.self (sz := s.heap.size)
  generalize hAe : va_A (wM qm cI cZ n S P x) s.heap.size = A at hD ⊢
  have hA : ∀ q : Nat, s.heap.size ≤ q → A q := fun q h => by rw [← hAe]; exact Or.inr h
  have hS : va_S A s.heap s.heap [] := va_S.rf
  have hP : va_P D vwCl (wM qm cI cZ n S P x) s.heap := hP
  have hl := lv_entry ([.ref (qm 0), .int (nI j)]) (n := 6) (Nat.le_of_ble_eq_true rfl)
  rw [lg_entry_eq]
  generalize (lg_sl ([.ref (qm 0), .int (nI j)]) ++ List.replicate (6 - (lg_sl ([.ref (qm 0), .int (nI j)])).length) Slot.unset).toArray = ls at hl ⊢
  have hl : lv_has ls 6 [(0, .ref (qm 0)), (1, .int (nI j))] := hl
  refine lv_bipush (v := nI 20) hx hb dModel_hear_0 (by decide) ?_
  refine lv_aload_n hx hb dModel_hear_2 rfl (lv_at hl 0 rfl) ?_
  refine va_get (D := D) (ci := 5) (v := .ref (qm 4)) (C := RModel) (T := TModel) (N := 25) hx hb hts (fun w h => mc (uModel_in w h)) hown hK hP 0 rfl rfl 6 (by decide) (hts _ (mc wd411)) (fun _ h9 => h9) rfl dModel_hear_3 ?_
  refine lv_iload_n hx hb dModel_hear_6 rfl (lv_at hl 1 rfl) ?_
  refine ka_ld (v := nI a) hx hb hK hP 4 0 rfl rfl (by omega) (by omega) hrc dModel_hear_7 ?_
  refine lv_imul hx hb dModel_hear_8 ?_
  refine lv_topi (nm_r (pk_mul _ _) ?_)
  refine lv_iconst (v := nI 5) hx hb dModel_hear_9 (by decide) ?_
  refine lv_aload_n hx hb dModel_hear_10 rfl (lv_at hl 0 rfl) ?_
  refine va_get (D := D) (ci := 5) (v := .ref (qm 5)) (C := RModel) (T := TModel) (N := 25) hx hb hts (fun w h => mc (uModel_in w h)) hown hK hP 0 rfl rfl 7 (by decide) (hts _ (mc wd412)) (fun _ h9 => h9) rfl dModel_hear_11 ?_
  refine lv_iload_n hx hb dModel_hear_14 rfl (lv_at hl 1 rfl) ?_
  refine ka_ld (v := nI t) hx hb hK hP 5 0 rfl rfl (by omega) (by omega) hsl dModel_hear_15 ?_
  refine lv_imul hx hb dModel_hear_16 ?_
  refine lv_topi (nm_r (pk_mul _ _) ?_)
  refine lv_iadd hx hb dModel_hear_17 ?_
  refine lv_topi (nm_r (nI_add _ _) ?_)
  refine lv_istore_n hx hb dModel_hear_18 rfl hl (by decide) rfl (fun ls hl => ?_)
  have hl : lv_has ls 6 [(2, .int (nI (20 * a + 5 * t))), (0, .ref (qm 0)), (1, .int (nI j))] := hl
  refine lv_iload_n hx hb dModel_hear_19 rfl (lv_at hl 0 rfl) ?_
  refine lv_aload_n hx hb dModel_hear_20 rfl (lv_at hl 1 rfl) ?_
  refine va_get (D := D) (ci := 5) (v := .ref (qm 3)) (C := RModel) (T := TModel) (N := 25) hx hb hts (fun w h => mc (uModel_in w h)) hown hK hP 0 rfl rfl 5 (by decide) (hts _ (mc wd410)) (fun _ h9 => h9) rfl dModel_hear_21 ?_
  refine lv_iload_n hx hb dModel_hear_24 rfl (lv_at hl 2 rfl) ?_
  refine ka_ld (v := nI b) hx hb hK hP 3 0 rfl rfl (by omega) (by omega) hsd dModel_hear_25 ?_
  refine lv_iadd hx hb dModel_hear_26 ?_
  refine lv_topi (nm_r (nI_add _ _) ?_)
  refine lv_istore_n hx hb dModel_hear_27 rfl hl (by decide) rfl (fun ls hl => ?_)
  have hl : lv_has ls 6 [(3, .int (nI (20 * a + 5 * t + b))), (2, .int (nI (20 * a + 5 * t))), (0, .ref (qm 0)), (1, .int (nI j))] := hl
  refine lv_aload_n hx hb dModel_hear_28 rfl (lv_at hl 2 rfl) ?_
  refine va_get (D := D) (ci := 5) (v := .ref (qm 6)) (C := RModel) (T := TModel) (N := 25) hx hb hts (fun w h => mc (uModel_in w h)) hown hK hP 0 rfl rfl 8 (by decide) (hts _ (mc wd413)) (fun _ h9 => h9) rfl dModel_hear_29 ?_
  refine lv_iload_n hx hb dModel_hear_32 rfl (lv_at hl 3 rfl) ?_
  refine ka_ld (v := x.1 0 j 4) hx hb hK hP 6 0 rfl rfl (by omega) (by omega) rfl dModel_hear_33 ?_
  refine lv_aload_n hx hb dModel_hear_34 rfl (lv_at hl 2 rfl) ?_
  refine va_get (D := D) (ci := 5) (v := .ref (qm 18)) (C := RModel) (T := TModel) (N := 25) hx hb hts (fun w h => mc (uModel_in w h)) hown hK hP 0 rfl rfl 20 (by decide) (hts _ (mc wd425)) (fun _ h9 => h9) rfl dModel_hear_35 ?_
  refine lv_iload_n hx hb dModel_hear_38 rfl (lv_at hl 0 rfl) ?_
  refine ka_ld (v := x.2 0 a t b) hx hb hK hP 18 0 rfl rfl (by omega) (by omega) (hr_at (by omega) (by omega)) dModel_hear_39 ?_
  refine lv_icmp_gt (tgt := 44) hx hb dModel_hear_40 (by decide) (fun c40 => ?_) (fun c40 => ?_)
  · refine lv_aload_n hx hb dModel_hear_44 rfl (lv_at hl 2 rfl) ?_
    refine va_get (D := D) (ci := 5) (v := .ref (qm 18)) (C := RModel) (T := TModel) (N := 25) hx hb hts (fun w h => mc (uModel_in w h)) hown hK hP 0 rfl rfl 20 (by decide) (hts _ (mc wd425)) (fun _ h9 => h9) rfl dModel_hear_45 ?_
    refine lv_iload_n hx hb dModel_hear_48 rfl (lv_at hl 0 rfl) ?_
    refine lv_aload_n hx hb dModel_hear_49 rfl (lv_at hl 2 rfl) ?_
    refine va_get (D := D) (ci := 5) (v := .ref (qm 6)) (C := RModel) (T := TModel) (N := 25) hx hb hts (fun w h => mc (uModel_in w h)) hown hK hP 0 rfl rfl 8 (by decide) (hts _ (mc wd413)) (fun _ h9 => h9) rfl dModel_hear_50 ?_
    refine lv_iload_n hx hb dModel_hear_53 rfl (lv_at hl 3 rfl) ?_
    refine ka_ld (v := x.1 0 j 4) hx hb hK hP 6 0 rfl rfl (by omega) (by omega) rfl dModel_hear_54 ?_
    refine ka_st (f' := hrm (up3 (x.2 0) a t b (x.1 0 j 4))) hx hb hK hP hD hS 18 0 rfl rfl (by omega) (by omega) (hr_up (by omega) (by omega)) dModel_hear_55 (fun H locs hP hD hS => ?_)
    have hP : va_P D vwCl (wR qm cI cZ n S P (col (x.1 13) 0) (col (x.1 0) 0) (col (x.1 0) 1) (col (x.1 0) 2) (col (x.1 0) 3) (col (x.1 0) 4) (col (x.1 0) 5) (col (x.1 0) 6) (sq 4 (x.1 2)) (sq 4 (x.1 1)) (sq 4 (x.1 6)) (sq 4 (x.1 3)) (sq 4 (x.1 4)) (sq 4 (x.1 7)) (sq 4 (x.1 8)) (sq 4 (x.1 9)) (sq 4 (x.1 10)) (hrm (up3 (x.2 0) a t b (x.1 0 j 4))) (hrm (x.2 1)) (sq 4 (x.1 11)) (x.1 12 0 0) (x.1 12 0 1)) H := hP
    have hD : va_D A (wR qm cI cZ n S P (col (x.1 13) 0) (col (x.1 0) 0) (col (x.1 0) 1) (col (x.1 0) 2) (col (x.1 0) 3) (col (x.1 0) 4) (col (x.1 0) 5) (col (x.1 0) 6) (sq 4 (x.1 2)) (sq 4 (x.1 1)) (sq 4 (x.1 6)) (sq 4 (x.1 3)) (sq 4 (x.1 4)) (sq 4 (x.1 7)) (sq 4 (x.1 8)) (sq 4 (x.1 9)) (sq 4 (x.1 10)) (hrm (up3 (x.2 0) a t b (x.1 0 j 4))) (hrm (x.2 1)) (sq 4 (x.1 11)) (x.1 12 0 0) (x.1 12 0 1)) := hD
    refine lv_aload_n hx hb dModel_hear_56 rfl (lv_at hl 2 rfl) ?_
    refine va_get (D := D) (ci := 5) (v := .ref (qm 19)) (C := RModel) (T := TModel) (N := 25) hx hb hts (fun w h => mc (uModel_in w h)) hown hK hP 0 rfl rfl 21 (by decide) (hts _ (mc wd426)) (fun _ h9 => h9) rfl dModel_hear_57 ?_
    refine lv_iload_n hx hb dModel_hear_60 rfl (lv_at hl 0 rfl) ?_
    refine lv_aload_n hx hb dModel_hear_61 rfl (lv_at hl 2 rfl) ?_
    refine va_get (D := D) (ci := 5) (v := .ref (qm 7)) (C := RModel) (T := TModel) (N := 25) hx hb hts (fun w h => mc (uModel_in w h)) hown hK hP 0 rfl rfl 9 (by decide) (hts _ (mc wd414)) (fun _ h9 => h9) rfl dModel_hear_62 ?_
    refine lv_iload_n hx hb dModel_hear_65 rfl (lv_at hl 3 rfl) ?_
    refine ka_ld (v := x.1 0 j 5) hx hb hK hP 7 0 rfl rfl (by omega) (by omega) rfl dModel_hear_66 ?_
    refine ka_st (f' := hrm (up3 (x.2 1) a t b (x.1 0 j 5))) hx hb hK hP hD hS 19 0 rfl rfl (by omega) (by omega) (hr_up (by omega) (by omega)) dModel_hear_67 (fun H locs hP hD hS => ?_)
    have hP : va_P D vwCl (wR qm cI cZ n S P (col (x.1 13) 0) (col (x.1 0) 0) (col (x.1 0) 1) (col (x.1 0) 2) (col (x.1 0) 3) (col (x.1 0) 4) (col (x.1 0) 5) (col (x.1 0) 6) (sq 4 (x.1 2)) (sq 4 (x.1 1)) (sq 4 (x.1 6)) (sq 4 (x.1 3)) (sq 4 (x.1 4)) (sq 4 (x.1 7)) (sq 4 (x.1 8)) (sq 4 (x.1 9)) (sq 4 (x.1 10)) (hrm (up3 (x.2 0) a t b (x.1 0 j 4))) (hrm (up3 (x.2 1) a t b (x.1 0 j 5))) (sq 4 (x.1 11)) (x.1 12 0 0) (x.1 12 0 1)) H := hP
    have hD : va_D A (wR qm cI cZ n S P (col (x.1 13) 0) (col (x.1 0) 0) (col (x.1 0) 1) (col (x.1 0) 2) (col (x.1 0) 3) (col (x.1 0) 4) (col (x.1 0) 5) (col (x.1 0) 6) (sq 4 (x.1 2)) (sq 4 (x.1 1)) (sq 4 (x.1 6)) (sq 4 (x.1 3)) (sq 4 (x.1 4)) (sq 4 (x.1 7)) (sq 4 (x.1 8)) (sq 4 (x.1 9)) (sq 4 (x.1 10)) (hrm (up3 (x.2 0) a t b (x.1 0 j 4))) (hrm (up3 (x.2 1) a t b (x.1 0 j 5))) (sq 4 (x.1 11)) (x.1 12 0 0) (x.1 12 0 1)) := hD
    refine lv_iconst (v := nI 0) hx hb dModel_hear_68 (by decide) ?_
    refine lv_istore hx hb dModel_hear_69 hl (by decide) rfl (fun ls hl => ?_)
    have hl : lv_has ls 6 [(4, .int (nI 0)), (3, .int (nI (20 * a + 5 * t + b))), (2, .int (nI (20 * a + 5 * t))), (0, .ref (qm 0)), (1, .int (nI j))] := hl
    refine lv_iconst (v := nI 0) hx hb dModel_hear_71 (by decide) ?_
    refine lv_istore hx hb dModel_hear_72 hl (by decide) rfl (fun ls hl => ?_)
    have hl : lv_has ls 6 [(5, .int (nI 0)), (4, .int (nI 0)), (3, .int (nI (20 * a + 5 * t + b))), (2, .int (nI (20 * a + 5 * t))), (0, .ref (qm 0)), (1, .int (nI j))] := hl
    have loop74 : ∀ (d74 i : Nat) (ls : Array Slot) (H : Heap) (locs : List Loc), i + d74 = n → lv_has ls 6 [(5, .int (nI i)), (4, .int (nI (cntE (up3 (x.2 0) a t b (x.1 0 j 4) a t) (x.1 0 j 4) i))), (3, .int (nI (20 * a + 5 * t + b))), (2, .int (nI (20 * a + 5 * t))), (0, .ref (qm 0)), (1, .int (nI j))] → va_P D vwCl (wR qm cI cZ n S P (col (x.1 13) 0) (col (x.1 0) 0) (col (x.1 0) 1) (col (x.1 0) 2) (col (x.1 0) 3) (col (x.1 0) 4) (col (x.1 0) 5) (col (x.1 0) 6) (sq 4 (x.1 2)) (sq 4 (x.1 1)) (sq 4 (x.1 6)) (sq 4 (x.1 3)) (sq 4 (x.1 4)) (sq 4 (x.1 7)) (sq 4 (x.1 8)) (sq 4 (x.1 9)) (sq 4 (x.1 10)) (hrm (up3 (x.2 0) a t b (x.1 0 j 4))) (hrm (up3 (x.2 1) a t b (x.1 0 j 5))) (sq 4 (x.1 11)) (x.1 12 0 0) (x.1 12 0 1)) H → va_D A (wR qm cI cZ n S P (col (x.1 13) 0) (col (x.1 0) 0) (col (x.1 0) 1) (col (x.1 0) 2) (col (x.1 0) 3) (col (x.1 0) 4) (col (x.1 0) 5) (col (x.1 0) 6) (sq 4 (x.1 2)) (sq 4 (x.1 1)) (sq 4 (x.1 6)) (sq 4 (x.1 3)) (sq 4 (x.1 4)) (sq 4 (x.1 7)) (sq 4 (x.1 8)) (sq 4 (x.1 9)) (sq 4 (x.1 10)) (hrm (up3 (x.2 0) a t b (x.1 0 j 4))) (hrm (up3 (x.2 1) a t b (x.1 0 j 5))) (sq 4 (x.1 11)) (x.1 12 0 0) (x.1 12 0 1)) → va_S A s.heap H locs → W p l e (headSpec wsModel_hear { frames := 1, cells := 0, slots := 0, locals := 24 }).room s m [.ref (qm 0), .int (nI j)].toArray below meth c H locs 0 0 (MQ below (va_Qv (fun w => w = (wM qm cI cZ n S P (sHear n x a t b (x.1 0 j 4) (x.1 0 j 5)))) (QW D [(cI, .int), (cZ, .boolean)] A) A) [.ref (qm 0), .int (nI j)].toArray s 0 0 A) (F0 m 74 ls []) := by
      intro d74
      induction d74 with
      | zero =>
        intro i ls H locs hid74  hl hP hD hS
        refine lv_iload hx hb dModel_hear_74 (lv_at hl 0 rfl) ?_
        refine lv_aload_n hx hb dModel_hear_76 rfl (lv_at hl 4 rfl) ?_
        refine va_get (D := D) (ci := 5) (v := .int (nI n)) (C := RModel) (T := TModel) (N := 25) hx hb hts (fun w h => mc (uModel_in w h)) hown hK hP 0 rfl rfl 0 (by decide) (hts _ (mc wd405)) (fun _ h9 => h9) rfl dModel_hear_77 ?_
        refine lv_icmp_ge (tgt := 118) hx hb dModel_hear_80 (by decide) (fun _ => ?_) (fun h9 => absurd (nI_le (by omega) (by omega)) h9)
        have hin : n = i := by omega
        subst hin
        have hW1 : (wR qm cI cZ n S P (col (x.1 13) 0) (col (x.1 0) 0) (col (x.1 0) 1) (col (x.1 0) 2) (col (x.1 0) 3) (col (x.1 0) 4) (col (x.1 0) 5) (col (x.1 0) 6) (sq 4 (x.1 2)) (sq 4 (x.1 1)) (sq 4 (x.1 6)) (sq 4 (x.1 3)) (sq 4 (x.1 4)) (sq 4 (x.1 7)) (sq 4 (x.1 8)) (sq 4 (x.1 9)) (sq 4 (x.1 10)) (hrm (up3 (x.2 0) a t b (x.1 0 j 4))) (hrm (up3 (x.2 1) a t b (x.1 0 j 5))) (sq 4 (x.1 11)) (x.1 12 0 0) (x.1 12 0 1)) = (wM qm cI cZ n S P (pth (pth x 0 a t b (x.1 0 j 4)) 1 a t b (x.1 0 j 5))) := rfl
        rw [hW1] at hP hD
        refine lv_aload_n hx hb dModel_hear_118 rfl (lv_at hl 4 rfl) ?_
        refine lv_aload_n hx hb dModel_hear_119 rfl (lv_at hl 4 rfl) ?_
        refine va_get (D := D) (ci := 5) (v := .ref (qm 4)) (C := RModel) (T := TModel) (N := 25) hx hb hts (fun w h => mc (uModel_in w h)) hown hK hP 0 rfl rfl 6 (by decide) (hts _ (mc wd411)) (fun _ h9 => h9) rfl dModel_hear_120 ?_
        refine lv_iload_n hx hb dModel_hear_123 rfl (lv_at hl 5 rfl) ?_
        refine ka_ld (v := nI a) hx hb hK hP 4 0 rfl rfl (by omega) (by omega) hrc dModel_hear_124 ?_
        refine lv_aload_n hx hb dModel_hear_125 rfl (lv_at hl 4 rfl) ?_
        refine va_get (D := D) (ci := 5) (v := .ref (qm 5)) (C := RModel) (T := TModel) (N := 25) hx hb hts (fun w h => mc (uModel_in w h)) hown hK hP 0 rfl rfl 7 (by decide) (hts _ (mc wd412)) (fun _ h9 => h9) rfl dModel_hear_126 ?_
        refine lv_iload_n hx hb dModel_hear_129 rfl (lv_at hl 5 rfl) ?_
        refine ka_ld (v := nI t) hx hb hK hP 5 0 rfl rfl (by omega) (by omega) hsl dModel_hear_130 ?_
        refine lv_aload_n hx hb dModel_hear_131 rfl (lv_at hl 4 rfl) ?_
        refine lv_iload hx hb dModel_hear_132 (lv_at hl 1 rfl) ?_
        have hPc := hP.sub (ws' := (wM qm cI cZ n S P (pth (pth x 0 a t b (x.1 0 j 4)) 1 a t b (x.1 0 j 5)))) [0, 1, 2, 3, 4, 5, 6, 7, 8, 9, 10, 11, 12, 13, 14, 15, 16, 17, 18, 19, 20] rfl
        have hDc := hD.sub (ws' := (wM qm cI cZ n S P (pth (pth x 0 a t b (x.1 0 j 4)) 1 a t b (x.1 0 j 5)))) [0, 1, 2, 3, 4, 5, 6, 7, 8, 9, 10, 11, 12, 13, 14, 15, 16, 17, 18, 19, 20] (by decide) rfl
        refine kx_i (va_runV (As := [.int (nI (cntE (up3 (x.2 0) a t b (x.1 0 j 4) a t) (x.1 0 j 4) n))]) (rest := [.int (nI t), .int (nI a), .ref (qm 0)]) ⟨hx, hb, hml, hown, hts⟩ ((m_isMajority l D cI cZ qm n S P (pth (pth x 0 a t b (x.1 0 j 4)) 1 a t b (x.1 0 j 5)) (cntE (up3 (x.2 0) a t b (x.1 0 j 4) a t) (x.1 0 j 4) n) (hn1) (hn5) (hS1) (hS4) (hP5) (hP64) (Nat.le_trans (cntE_le _ _ _) hn5)) H.size) (cwV 1 hts (gV wd529 wd531 sl_Model_isMajority wd7 wd532) rfl rfl rfl (by decide +kernel) ⟨Nat.le_of_ble_eq_true rfl, Nat.le_of_ble_eq_true rfl⟩) ⟨fb_PW, va_recv (q0 := 0) (ci := 5) hK hPc rfl rfl, pre_PW hK hPc hDc hZ⟩ rfl rfl hl.1 rfl (lv_room (Nat.le_of_ble_eq_true rfl)) dModel_hear_134 ⟨Nat.zero_le _, Nat.zero_le _⟩) hP hD hS hA [0, 1, 2, 3, 4, 5, 6, 7, 8, 9, 10, 11, 12, 13, 14, 15, 16, 17, 18, 19, 20] [] rfl rfl (by decide) (by decide) (fun r w1 H locs hw hP hD hS => ?_)
        rcases hw with ⟨rfl, h134, rfl⟩ | ⟨rfl, h134, rfl⟩
        · have hP : va_P D vwCl (wM qm cI cZ n S P (pth (pth x 0 a t b (x.1 0 j 4)) 1 a t b (x.1 0 j 5))) H := hP
          have hD : va_D A (wM qm cI cZ n S P (pth (pth x 0 a t b (x.1 0 j 4)) 1 a t b (x.1 0 j 5))) := hD
          refine lv_if_eq (tgt := 149) hx hb dModel_hear_137 (by decide) (fun h9 => absurd h9 (by decide)) (fun _ => ?_)
          refine lv_aload_n hx hb dModel_hear_140 rfl (lv_at hl 4 rfl) ?_
          refine va_get (D := D) (ci := 5) (v := .ref (qm 7)) (C := RModel) (T := TModel) (N := 25) hx hb hts (fun w h => mc (uModel_in w h)) hown hK hP 0 rfl rfl 9 (by decide) (hts _ (mc wd414)) (fun _ h9 => h9) rfl dModel_hear_141 ?_
          refine lv_iload_n hx hb dModel_hear_144 rfl (lv_at hl 5 rfl) ?_
          refine ka_ld (v := x.1 0 j 5) hx hb hK hP 7 0 rfl rfl (by omega) (by omega) rfl dModel_hear_145 ?_
          refine lv_goto (tgt := 150) hx hb dModel_hear_146 (by decide) ?_
          have hPc := hP.sub (ws' := (wM qm cI cZ n S P (pth (pth x 0 a t b (x.1 0 j 4)) 1 a t b (x.1 0 j 5)))) [0, 1, 2, 3, 4, 5, 6, 7, 8, 9, 10, 11, 12, 13, 14, 15, 16, 17, 18, 19, 20] rfl
          have hDc := hD.sub (ws' := (wM qm cI cZ n S P (pth (pth x 0 a t b (x.1 0 j 4)) 1 a t b (x.1 0 j 5)))) [0, 1, 2, 3, 4, 5, 6, 7, 8, 9, 10, 11, 12, 13, 14, 15, 16, 17, 18, 19, 20] (by decide) rfl
          refine kx_v (va_runV (As := [.int (nI a), .int (nI t), .int (x.1 0 j 5)]) (rest := []) ⟨hx, hb, hml, hown, hts⟩ ((m_learn l D cI cZ qm n S P (pth (pth x 0 a t b (x.1 0 j 4)) 1 a t b (x.1 0 j 5)) a t (x.1 0 j 5) (hn1) (hn5) (hS1) (hS4) (hP5) (hP64) (ha) (ht)) H.size) (cwV 3 hts (gV wd545 wd547 sl_Model_learn wd7 wd548) rfl rfl rfl (by decide +kernel) ⟨Nat.le_of_ble_eq_true rfl, Nat.le_of_ble_eq_true rfl⟩) ⟨fb_PW, va_recv (q0 := 0) (ci := 5) hK hPc rfl rfl, pre_PW hK hPc hDc hZ⟩ rfl rfl hl.1 rfl (lv_room (Nat.le_of_ble_eq_true rfl)) dModel_hear_150 ⟨Nat.zero_le _, Nat.zero_le _⟩) hP hD hS hA [0, 1, 2, 3, 4, 5, 6, 7, 8, 9, 10, 11, 12, 13, 14, 15, 16, 17, 18, 19, 20] [] rfl rfl (by decide) (by decide) (fun w1 H locs hw hP hD hS => ?_)
          obtain rfl := hw
          have hP : va_P D vwCl (wM qm cI cZ n S P (sLearn (pth (pth x 0 a t b (x.1 0 j 4)) 1 a t b (x.1 0 j 5)) a t (x.1 0 j 5))) H := hP
          have hD : va_D A (wM qm cI cZ n S P (sLearn (pth (pth x 0 a t b (x.1 0 j 4)) 1 a t b (x.1 0 j 5)) a t (x.1 0 j 5))) := hD
          exact W.vret hx hb hr (fun t9 ht9 hW9 => ⟨⟨(wM qm cI cZ n S P (sLearn (pth (pth x 0 a t b (x.1 0 j 4)) 1 a t b (x.1 0 j 5)) a t (x.1 0 j 5))), rfl, by unfold sHear; rw [if_pos c40, if_pos h134], by rw [ht9]; exact hP, va_K.moved hW9.alike hK, hD⟩, hS.F ht9⟩) hS.2.2 dModel_hear_153
        · have hP : va_P D vwCl (wM qm cI cZ n S P (pth (pth x 0 a t b (x.1 0 j 4)) 1 a t b (x.1 0 j 5))) H := hP
          have hD : va_D A (wM qm cI cZ n S P (pth (pth x 0 a t b (x.1 0 j 4)) 1 a t b (x.1 0 j 5))) := hD
          refine lv_if_eq (tgt := 149) hx hb dModel_hear_137 (by decide) (fun _ => ?_) (fun h9 => absurd (by decide) h9)
          refine lv_iconst (v := nI 0) hx hb dModel_hear_149 (by decide) ?_
          have hPc := hP.sub (ws' := (wM qm cI cZ n S P (pth (pth x 0 a t b (x.1 0 j 4)) 1 a t b (x.1 0 j 5)))) [0, 1, 2, 3, 4, 5, 6, 7, 8, 9, 10, 11, 12, 13, 14, 15, 16, 17, 18, 19, 20] rfl
          have hDc := hD.sub (ws' := (wM qm cI cZ n S P (pth (pth x 0 a t b (x.1 0 j 4)) 1 a t b (x.1 0 j 5)))) [0, 1, 2, 3, 4, 5, 6, 7, 8, 9, 10, 11, 12, 13, 14, 15, 16, 17, 18, 19, 20] (by decide) rfl
          refine kx_v (va_runV (As := [.int (nI a), .int (nI t), .int (nI 0)]) (rest := []) ⟨hx, hb, hml, hown, hts⟩ ((m_learn l D cI cZ qm n S P (pth (pth x 0 a t b (x.1 0 j 4)) 1 a t b (x.1 0 j 5)) a t (nI 0) (hn1) (hn5) (hS1) (hS4) (hP5) (hP64) (ha) (ht)) H.size) (cwV 3 hts (gV wd545 wd547 sl_Model_learn wd7 wd548) rfl rfl rfl (by decide +kernel) ⟨Nat.le_of_ble_eq_true rfl, Nat.le_of_ble_eq_true rfl⟩) ⟨fb_PW, va_recv (q0 := 0) (ci := 5) hK hPc rfl rfl, pre_PW hK hPc hDc hZ⟩ rfl rfl hl.1 rfl (lv_room (Nat.le_of_ble_eq_true rfl)) dModel_hear_150 ⟨Nat.zero_le _, Nat.zero_le _⟩) hP hD hS hA [0, 1, 2, 3, 4, 5, 6, 7, 8, 9, 10, 11, 12, 13, 14, 15, 16, 17, 18, 19, 20] [] rfl rfl (by decide) (by decide) (fun w1 H locs hw hP hD hS => ?_)
          obtain rfl := hw
          have hP : va_P D vwCl (wM qm cI cZ n S P (sLearn (pth (pth x 0 a t b (x.1 0 j 4)) 1 a t b (x.1 0 j 5)) a t (nI 0))) H := hP
          have hD : va_D A (wM qm cI cZ n S P (sLearn (pth (pth x 0 a t b (x.1 0 j 4)) 1 a t b (x.1 0 j 5)) a t (nI 0))) := hD
          exact W.vret hx hb hr (fun t9 ht9 hW9 => ⟨⟨(wM qm cI cZ n S P (sLearn (pth (pth x 0 a t b (x.1 0 j 4)) 1 a t b (x.1 0 j 5)) a t (nI 0))), rfl, by unfold sHear; rw [if_pos c40, if_neg h134, learn0], by rw [ht9]; exact hP, va_K.moved hW9.alike hK, hD⟩, hS.F ht9⟩) hS.2.2 dModel_hear_153
      | succ d74 ih74 =>
        intro i ls H locs hid74  hl hP hD hS
        refine lv_iload hx hb dModel_hear_74 (lv_at hl 0 rfl) ?_
        refine lv_aload_n hx hb dModel_hear_76 rfl (lv_at hl 4 rfl) ?_
        refine va_get (D := D) (ci := 5) (v := .int (nI n)) (C := RModel) (T := TModel) (N := 25) hx hb hts (fun w h => mc (uModel_in w h)) hown hK hP 0 rfl rfl 0 (by decide) (hts _ (mc wd405)) (fun _ h9 => h9) rfl dModel_hear_77 ?_
        refine lv_icmp_ge (tgt := 118) hx hb dModel_hear_80 (by decide) (fun h9 => absurd h9 (nI_ge (by omega) (by omega))) (fun _ => ?_)
        refine lv_aload_n hx hb dModel_hear_83 rfl (lv_at hl 4 rfl) ?_
        refine va_get (D := D) (ci := 5) (v := .ref (qm 18)) (C := RModel) (T := TModel) (N := 25) hx hb hts (fun w h => mc (uModel_in w h)) hown hK hP 0 rfl rfl 20 (by decide) (hts _ (mc wd425)) (fun _ h9 => h9) rfl dModel_hear_84 ?_
        refine lv_iload_n hx hb dModel_hear_87 rfl (lv_at hl 3 rfl) ?_
        refine lv_iload hx hb dModel_hear_88 (lv_at hl 0 rfl) ?_
        refine lv_iadd hx hb dModel_hear_90 ?_
        refine lv_topi (nm_r (nI_add _ _) ?_)
        refine ka_ld (v := (up3 (x.2 0) a t b (x.1 0 j 4)) a t i) hx hb hK hP 18 0 rfl rfl (by omega) (by omega) (hr_at (by omega) (by omega)) dModel_hear_91 ?_
        refine lv_aload_n hx hb dModel_hear_92 rfl (lv_at hl 4 rfl) ?_
        refine va_get (D := D) (ci := 5) (v := .ref (qm 6)) (C := RModel) (T := TModel) (N := 25) hx hb hts (fun w h => mc (uModel_in w h)) hown hK hP 0 rfl rfl 8 (by decide) (hts _ (mc wd413)) (fun _ h9 => h9) rfl dModel_hear_93 ?_
        refine lv_iload_n hx hb dModel_hear_96 rfl (lv_at hl 5 rfl) ?_
        refine ka_ld (v := x.1 0 j 4) hx hb hK hP 6 0 rfl rfl (by omega) (by omega) rfl dModel_hear_97 ?_
        refine lv_icmp_ne (tgt := 108) hx hb dModel_hear_98 (by decide) (fun c98 => ?_) (fun c98 => ?_)
        · refine lv_iload hx hb dModel_hear_108 (lv_at hl 1 rfl) ?_
          refine lv_topi (nm_r (ce_t c98) ?_)
          refine lv_istore hx hb dModel_hear_110 hl (by decide) rfl (fun ls hl => ?_)
          have hl : lv_has ls 6 [(4, .int (nI (cntE (up3 (x.2 0) a t b (x.1 0 j 4) a t) (x.1 0 j 4) (i + 1)))), (5, .int (nI i)), (3, .int (nI (20 * a + 5 * t + b))), (2, .int (nI (20 * a + 5 * t))), (0, .ref (qm 0)), (1, .int (nI j))] := hl
          refine lv_iinc (k := 1) (v := nI (i + 1)) hx hb dModel_hear_112 hl rfl ((nI_succ _).symm) (by decide) rfl (fun ls hl => ?_)
          have hl : lv_has ls 6 [(5, .int (nI (i + 1))), (4, .int (nI (cntE (up3 (x.2 0) a t b (x.1 0 j 4) a t) (x.1 0 j 4) (i + 1)))), (3, .int (nI (20 * a + 5 * t + b))), (2, .int (nI (20 * a + 5 * t))), (0, .ref (qm 0)), (1, .int (nI j))] := hl
          refine lv_goto (tgt := 74) hx hb dModel_hear_115 (by decide) ?_
          exact ih74 (i + 1) ls H locs (by omega) hl hP hD hS
        · refine lv_iload hx hb dModel_hear_101 (lv_at hl 1 rfl) ?_
          refine lv_iconst (v := nI 1) hx hb dModel_hear_103 (by decide) ?_
          refine lv_iadd hx hb dModel_hear_104 ?_
          refine lv_topi (nm_r (nI_add _ _) ?_)
          refine lv_goto (tgt := 110) hx hb dModel_hear_105 (by decide) ?_
          refine lv_topi (nm_r (ce_f c98) ?_)
          refine lv_istore hx hb dModel_hear_110 hl (by decide) rfl (fun ls hl => ?_)
          have hl : lv_has ls 6 [(4, .int (nI (cntE (up3 (x.2 0) a t b (x.1 0 j 4) a t) (x.1 0 j 4) (i + 1)))), (5, .int (nI i)), (3, .int (nI (20 * a + 5 * t + b))), (2, .int (nI (20 * a + 5 * t))), (0, .ref (qm 0)), (1, .int (nI j))] := hl
          refine lv_iinc (k := 1) (v := nI (i + 1)) hx hb dModel_hear_112 hl rfl ((nI_succ _).symm) (by decide) rfl (fun ls hl => ?_)
          have hl : lv_has ls 6 [(5, .int (nI (i + 1))), (4, .int (nI (cntE (up3 (x.2 0) a t b (x.1 0 j 4) a t) (x.1 0 j 4) (i + 1)))), (3, .int (nI (20 * a + 5 * t + b))), (2, .int (nI (20 * a + 5 * t))), (0, .ref (qm 0)), (1, .int (nI j))] := hl
          refine lv_goto (tgt := 74) hx hb dModel_hear_115 (by decide) ?_
          exact ih74 (i + 1) ls H locs (by omega) hl hP hD hS
    exact loop74 n 0 ls H locs (by omega) hl hP hD hS
  · exact W.vret hx hb hr (fun t9 ht9 hW9 => ⟨⟨(wM qm cI cZ n S P x), rfl, by unfold sHear; rw [if_neg c40], by rw [ht9]; exact hP, va_K.moved hW9.alike hK, hD⟩, hS.F ht9⟩) hS.2.2 dModel_hear_43
theorem dModel_take_0 : decode cModel_take 0 = .ok (.aload_n 0, 1) := by decide +kernel
theorem dModel_take_1 : decode cModel_take 1 = .ok (.getfield 20, 3) := by decide +kernel
theorem dModel_take_4 : decode cModel_take 4 = .ok (.iload_n 2, 1) := by decide +kernel
theorem dModel_take_5 : decode cModel_take 5 = .ok (.iaload, 1) := by decide +kernel
theorem dModel_take_6 : decode cModel_take 6 = .ok (.istore_n 3, 1) := by decide +kernel
theorem dModel_take_7 : decode cModel_take 7 = .ok (.aload_n 0, 1) := by decide +kernel
theorem dModel_take_8 : decode cModel_take 8 = .ok (.getfield 23, 3) := by decide +kernel
theorem dModel_take_11 : decode cModel_take 11 = .ok (.iload_n 2, 1) := by decide +kernel
theorem dModel_take_12 : decode cModel_take 12 = .ok (.iaload, 1) := by decide +kernel
theorem dModel_take_13 : decode cModel_take 13 = .ok (.istore 4, 2) := by decide +kernel
theorem dModel_take_15 : decode cModel_take 15 = .ok (.aload_n 0, 1) := by decide +kernel
theorem dModel_take_16 : decode cModel_take 16 = .ok (.getfield 26, 3) := by decide +kernel
theorem dModel_take_19 : decode cModel_take 19 = .ok (.iload_n 2, 1) := by decide +kernel
theorem dModel_take_20 : decode cModel_take 20 = .ok (.iaload, 1) := by decide +kernel
theorem dModel_take_21 : decode cModel_take 21 = .ok (.istore 5, 2) := by decide +kernel
theorem dModel_take_23 : decode cModel_take 23 = .ok (.aload_n 0, 1) := by decide +kernel
theorem dModel_take_24 : decode cModel_take 24 = .ok (.getfield 29, 3) := by decide +kernel
theorem dModel_take_27 : decode cModel_take 27 = .ok (.iload_n 2, 1) := by decide +kernel
theorem dModel_take_28 : decode cModel_take 28 = .ok (.iaload, 1) := by decide +kernel
theorem dModel_take_29 : decode cModel_take 29 = .ok (.istore 6, 2) := by decide +kernel
theorem dModel_take_31 : decode cModel_take 31 = .ok (.iconst 4, 1) := by decide +kernel
theorem dModel_take_32 : decode cModel_take 32 = .ok (.iload_n 3, 1) := by decide +kernel
theorem dModel_take_33 : decode cModel_take 33 = .ok (.imul, 1) := by decide +kernel
theorem dModel_take_34 : decode cModel_take 34 = .ok (.iload 4, 2) := by decide +kernel
theorem dModel_take_36 : decode cModel_take 36 = .ok (.iadd, 1) := by decide +kernel
theorem dModel_take_37 : decode cModel_take 37 = .ok (.istore 7, 2) := by decide +kernel
theorem dModel_take_39 : decode cModel_take 39 = .ok (.iload_n 1, 1) := by decide +kernel
theorem dModel_take_40 : decode cModel_take 40 = .ok (.iconst 1, 1) := by decide +kernel
theorem dModel_take_41 : decode cModel_take 41 = .ok (.if_icmp .ne 59, 3) := by decide +kernel
theorem dModel_take_44 : decode cModel_take 44 = .ok (.iload 5, 2) := by decide +kernel
theorem dModel_take_46 : decode cModel_take 46 = .ok (.aload_n 0, 1) := by decide +kernel
theorem dModel_take_47 : decode cModel_take 47 = .ok (.getfield 53, 3) := by decide +kernel
theorem dModel_take_50 : decode cModel_take 50 = .ok (.iload 7, 2) := by decide +kernel
theorem dModel_take_52 : decode cModel_take 52 = .ok (.iaload, 1) := by decide +kernel
theorem dModel_take_53 : decode cModel_take 53 = .ok (.if_icmp .le 47, 3) := by decide +kernel
theorem dModel_take_56 : decode cModel_take 56 = .ok (.aload_n 0, 1) := by decide +kernel
theorem dModel_take_57 : decode cModel_take 57 = .ok (.getfield 53, 3) := by decide +kernel
theorem dModel_take_60 : decode cModel_take 60 = .ok (.iload 7, 2) := by decide +kernel
theorem dModel_take_62 : decode cModel_take 62 = .ok (.iload 5, 2) := by decide +kernel
theorem dModel_take_64 : decode cModel_take 64 = .ok (.iastore, 1) := by decide +kernel
theorem dModel_take_65 : decode cModel_take 65 = .ok (.aload_n 0, 1) := by decide +kernel
theorem dModel_take_66 : decode cModel_take 66 = .ok (.iconst 2, 1) := by decide +kernel
theorem dModel_take_67 : decode cModel_take 67 = .ok (.iload_n 3, 1) := by decide +kernel
theorem dModel_take_68 : decode cModel_take 68 = .ok (.aload_n 0, 1) := by decide +kernel
theorem dModel_take_69 : decode cModel_take 69 = .ok (.getfield 17, 3) := by decide +kernel
theorem dModel_take_72 : decode cModel_take 72 = .ok (.iload_n 2, 1) := by decide +kernel
theorem dModel_take_73 : decode cModel_take 73 = .ok (.iaload, 1) := by decide +kernel
theorem dModel_take_74 : decode cModel_take 74 = .ok (.iload 4, 2) := by decide +kernel
theorem dModel_take_76 : decode cModel_take 76 = .ok (.iload 5, 2) := by decide +kernel
theorem dModel_take_78 : decode cModel_take 78 = .ok (.aload_n 0, 1) := by decide +kernel
theorem dModel_take_79 : decode cModel_take 79 = .ok (.getfield 59, 3) := by decide +kernel
theorem dModel_take_82 : decode cModel_take 82 = .ok (.iload 7, 2) := by decide +kernel
theorem dModel_take_84 : decode cModel_take 84 = .ok (.iaload, 1) := by decide +kernel
theorem dModel_take_85 : decode cModel_take 85 = .ok (.aload_n 0, 1) := by decide +kernel
theorem dModel_take_86 : decode cModel_take 86 = .ok (.getfield 56, 3) := by decide +kernel
theorem dModel_take_89 : decode cModel_take 89 = .ok (.iload 7, 2) := by decide +kernel
theorem dModel_take_91 : decode cModel_take 91 = .ok (.iaload, 1) := by decide +kernel
theorem dModel_take_92 : decode cModel_take 92 = .ok (.invokevirtual 81, 3) := by decide +kernel
theorem dModel_take_95 : decode cModel_take 95 = .ok (.istore 8, 2) := by decide +kernel
theorem dModel_take_97 : decode cModel_take 97 = .ok (.goto 102, 3) := by decide +kernel
theorem dModel_take_100 : decode cModel_take 100 = .ok (.iload_n 1, 1) := by decide +kernel
theorem dModel_take_101 : decode cModel_take 101 = .ok (.iconst 2, 1) := by decide +kernel
theorem dModel_take_102 : decode cModel_take 102 = .ok (.if_icmp .ne 11, 3) := by decide +kernel
theorem dModel_take_105 : decode cModel_take 105 = .ok (.aload_n 0, 1) := by decide +kernel
theorem dModel_take_106 : decode cModel_take 106 = .ok (.iload_n 2, 1) := by decide +kernel
theorem dModel_take_107 : decode cModel_take 107 = .ok (.invokevirtual 117, 3) := by decide +kernel
theorem dModel_take_110 : decode cModel_take 110 = .ok (.goto 89, 3) := by decide +kernel
theorem dModel_take_113 : decode cModel_take 113 = .ok (.iload_n 1, 1) := by decide +kernel
theorem dModel_take_114 : decode cModel_take 114 = .ok (.iconst 3, 1) := by decide +kernel
theorem dModel_take_115 : decode cModel_take 115 = .ok (.if_icmp .ne 57, 3) := by decide +kernel
theorem dModel_take_118 : decode cModel_take 118 = .ok (.iload 5, 2) := by decide +kernel
theorem dModel_take_120 : decode cModel_take 120 = .ok (.aload_n 0, 1) := by decide +kernel
theorem dModel_take_121 : decode cModel_take 121 = .ok (.getfield 53, 3) := by decide +kernel
theorem dModel_take_124 : decode cModel_take 124 = .ok (.iload 7, 2) := by decide +kernel
theorem dModel_take_126 : decode cModel_take 126 = .ok (.iaload, 1) := by decide +kernel
theorem dModel_take_127 : decode cModel_take 127 = .ok (.if_icmp .lt 45, 3) := by decide +kernel
theorem dModel_take_130 : decode cModel_take 130 = .ok (.aload_n 0, 1) := by decide +kernel
theorem dModel_take_131 : decode cModel_take 131 = .ok (.getfield 53, 3) := by decide +kernel
theorem dModel_take_134 : decode cModel_take 134 = .ok (.iload 7, 2) := by decide +kernel
theorem dModel_take_136 : decode cModel_take 136 = .ok (.iload 5, 2) := by decide +kernel
theorem dModel_take_138 : decode cModel_take 138 = .ok (.iastore, 1) := by decide +kernel
theorem dModel_take_139 : decode cModel_take 139 = .ok (.aload_n 0, 1) := by decide +kernel
theorem dModel_take_140 : decode cModel_take 140 = .ok (.getfield 56, 3) := by decide +kernel
theorem dModel_take_143 : decode cModel_take 143 = .ok (.iload 7, 2) := by decide +kernel
theorem dModel_take_145 : decode cModel_take 145 = .ok (.iload 5, 2) := by decide +kernel
theorem dModel_take_147 : decode cModel_take 147 = .ok (.iastore, 1) := by decide +kernel
theorem dModel_take_148 : decode cModel_take 148 = .ok (.aload_n 0, 1) := by decide +kernel
theorem dModel_take_149 : decode cModel_take 149 = .ok (.getfield 59, 3) := by decide +kernel
theorem dModel_take_152 : decode cModel_take 152 = .ok (.iload 7, 2) := by decide +kernel
theorem dModel_take_154 : decode cModel_take 154 = .ok (.iload 6, 2) := by decide +kernel
theorem dModel_take_156 : decode cModel_take 156 = .ok (.iastore, 1) := by decide +kernel
theorem dModel_take_157 : decode cModel_take 157 = .ok (.aload_n 0, 1) := by decide +kernel
theorem dModel_take_158 : decode cModel_take 158 = .ok (.iconst 4, 1) := by decide +kernel
theorem dModel_take_159 : decode cModel_take 159 = .ok (.iload_n 3, 1) := by decide +kernel
theorem dModel_take_160 : decode cModel_take 160 = .ok (.iload 4, 2) := by decide +kernel
theorem dModel_take_162 : decode cModel_take 162 = .ok (.iload 5, 2) := by decide +kernel
theorem dModel_take_164 : decode cModel_take 164 = .ok (.iload 6, 2) := by decide +kernel
theorem dModel_take_166 : decode cModel_take 166 = .ok (.invokevirtual 96, 3) := by decide +kernel
theorem dModel_take_169 : decode cModel_take 169 = .ok (.goto 30, 3) := by decide +kernel
theorem dModel_take_172 : decode cModel_take 172 = .ok (.iload_n 1, 1) := by decide +kernel
theorem dModel_take_173 : decode cModel_take 173 = .ok (.iconst 4, 1) := by decide +kernel
theorem dModel_take_174 : decode cModel_take 174 = .ok (.if_icmp .ne 11, 3) := by decide +kernel
theorem dModel_take_177 : decode cModel_take 177 = .ok (.aload_n 0, 1) := by decide +kernel
theorem dModel_take_178 : decode cModel_take 178 = .ok (.iload_n 2, 1) := by decide +kernel
theorem dModel_take_179 : decode cModel_take 179 = .ok (.invokevirtual 121, 3) := by decide +kernel
theorem dModel_take_182 : decode cModel_take 182 = .ok (.goto 17, 3) := by decide +kernel
theorem dModel_take_185 : decode cModel_take 185 = .ok (.iload_n 1, 1) := by decide +kernel
theorem dModel_take_186 : decode cModel_take 186 = .ok (.iconst 5, 1) := by decide +kernel
theorem dModel_take_187 : decode cModel_take 187 = .ok (.if_icmp .ne 12, 3) := by decide +kernel
theorem dModel_take_190 : decode cModel_take 190 = .ok (.aload_n 0, 1) := by decide +kernel
theorem dModel_take_191 : decode cModel_take 191 = .ok (.iload_n 3, 1) := by decide +kernel
theorem dModel_take_192 : decode cModel_take 192 = .ok (.iload 4, 2) := by decide +kernel
theorem dModel_take_194 : decode cModel_take 194 = .ok (.iload 6, 2) := by decide +kernel
theorem dModel_take_196 : decode cModel_take 196 = .ok (.invokevirtual 113, 3) := by decide +kernel
theorem dModel_take_199 : decode cModel_take 199 = .ok (.return_, 1) := by decide +kernel
set_option maxRecDepth 100000 in
set_option maxHeartbeats 4000000 in
theorem m_take (l : Launch) (D : va_G) (cI cZ : ClassId) (qm : Nat → Nat) (n : Nat) (S : Nat) (P : Nat) (x : St) (k : Int32) (j : Nat) (a : Nat) (t : Nat) (b : Nat) (hn1 : 1 ≤ n) (hn5 : n ≤ 5) (hS1 : 1 ≤ S) (hS4 : S ≤ 4) (hP5 : 5 ≤ P) (hP64 : P ≤ 64) (hj : j < 64) (ha : a < n) (ht : t < S) (hbn : b < n) (hrc : x.1 0 j 2 = nI a) (hsl : x.1 0 j 3 = nI t) (hsd : x.1 0 j 1 = nI b) (hIn : Inv n S x) (hv0 : 0 ≤ x.1 0 j 5) (hkv : ¬ k = nI 1 → ¬ k = nI 2 → ¬ k = nI 3 → ¬ k = nI 4 → k = nI 5) (hr1 : cntx P x < P) (hr2 : k = nI 2 → (x.1 1 a t = nI 1 ∧ x.1 2 a t = x.1 0 j 4) → n < 2 * popn (ix (orb (x.1 3 a t) (nI b))) → cntx P x + n ≤ P) (hr3 : k = nI 3 → x.1 8 a t ≤ x.1 0 j 4 → cntx P x + n ≤ P) : MV l D [(cI, .int), (cZ, .boolean)] yModel_take wsModel_take ({ frames := 3, cells := 0, slots := 0, locals := 77 }) [.ref (qm 0), .int k, .int (nI j)] (wM qm cI cZ n S P x) (fun w => w = (wM qm cI cZ n S P (sTake n P x k b a t (x.1 0 j 4) (x.1 0 j 5) (x.1 0 j 6)))) := by
  intro sz
  refine Met.ofW (cc := cModel_take) (maxL := 9) (ret := (Option.none : Option ClassFile.FieldType)) (by decide) rfl ?_
  intro p e s m args below meth c s₁ B hml hv
  obtain ⟨rfl, hsz, hP, hK, hD0, hZ⟩ := hv
  have hx := B.exec
  have hb := B.bytes
  have hr := B.returns
  have hts := atoms_spec (ws := wsModel_take) B.pre
  have hown : s.vm.findClass RModel = some m.cls := findClass_of_methodNamed B.named
  have hlocks := B.notSynchronized
  subst hsz
  have hD := hD0.self (sz := s.heap.size)
  generalize hAe : va_A (wM qm cI cZ n S P x) s.heap.size = A at hD ⊢
  have hA : ∀ q : Nat, s.heap.size ≤ q → A q := fun q h => by rw [← hAe]; exact Or.inr h
  have hS : va_S A s.heap s.heap [] := va_S.rf
  have hP : va_P D vwCl (wM qm cI cZ n S P x) s.heap := hP
  have hl := lv_entry ([.ref (qm 0), .int k, .int (nI j)]) (n := 9) (Nat.le_of_ble_eq_true rfl)
  rw [lg_entry_eq]
  generalize (lg_sl ([.ref (qm 0), .int k, .int (nI j)]) ++ List.replicate (9 - (lg_sl ([.ref (qm 0), .int k, .int (nI j)])).length) Slot.unset).toArray = ls at hl ⊢
  have hl : lv_has ls 9 [(0, .ref (qm 0)), (1, .int k), (2, .int (nI j))] := hl
  refine lv_aload_n hx hb dModel_take_0 rfl (lv_at hl 0 rfl) ?_
  refine va_get (D := D) (ci := 5) (v := .ref (qm 4)) (C := RModel) (T := TModel) (N := 25) hx hb hts (fun w h => mc (uModel_in w h)) hown hK hP 0 rfl rfl 6 (by decide) (hts _ (mc wd411)) (fun _ h9 => h9) rfl dModel_take_1 ?_
  refine lv_iload_n hx hb dModel_take_4 rfl (lv_at hl 2 rfl) ?_
  refine ka_ld (v := nI a) hx hb hK hP 4 0 rfl rfl (by omega) (by omega) hrc dModel_take_5 ?_
  refine lv_istore_n hx hb dModel_take_6 rfl hl (by decide) rfl (fun ls hl => ?_)
  have hl : lv_has ls 9 [(3, .int (nI a)), (0, .ref (qm 0)), (1, .int k), (2, .int (nI j))] := hl
  refine lv_aload_n hx hb dModel_take_7 rfl (lv_at hl 1 rfl) ?_
  refine va_get (D := D) (ci := 5) (v := .ref (qm 5)) (C := RModel) (T := TModel) (N := 25) hx hb hts (fun w h => mc (uModel_in w h)) hown hK hP 0 rfl rfl 7 (by decide) (hts _ (mc wd412)) (fun _ h9 => h9) rfl dModel_take_8 ?_
  refine lv_iload_n hx hb dModel_take_11 rfl (lv_at hl 3 rfl) ?_
  refine ka_ld (v := nI t) hx hb hK hP 5 0 rfl rfl (by omega) (by omega) hsl dModel_take_12 ?_
  refine lv_istore hx hb dModel_take_13 hl (by decide) rfl (fun ls hl => ?_)
  have hl : lv_has ls 9 [(4, .int (nI t)), (3, .int (nI a)), (0, .ref (qm 0)), (1, .int k), (2, .int (nI j))] := hl
  refine lv_aload_n hx hb dModel_take_15 rfl (lv_at hl 2 rfl) ?_
  refine va_get (D := D) (ci := 5) (v := .ref (qm 6)) (C := RModel) (T := TModel) (N := 25) hx hb hts (fun w h => mc (uModel_in w h)) hown hK hP 0 rfl rfl 8 (by decide) (hts _ (mc wd413)) (fun _ h9 => h9) rfl dModel_take_16 ?_
  refine lv_iload_n hx hb dModel_take_19 rfl (lv_at hl 4 rfl) ?_
  refine ka_ld (v := x.1 0 j 4) hx hb hK hP 6 0 rfl rfl (by omega) (by omega) rfl dModel_take_20 ?_
  refine lv_istore hx hb dModel_take_21 hl (by decide) rfl (fun ls hl => ?_)
  have hl : lv_has ls 9 [(5, .int (x.1 0 j 4)), (4, .int (nI t)), (3, .int (nI a)), (0, .ref (qm 0)), (1, .int k), (2, .int (nI j))] := hl
  refine lv_aload_n hx hb dModel_take_23 rfl (lv_at hl 3 rfl) ?_
  refine va_get (D := D) (ci := 5) (v := .ref (qm 7)) (C := RModel) (T := TModel) (N := 25) hx hb hts (fun w h => mc (uModel_in w h)) hown hK hP 0 rfl rfl 9 (by decide) (hts _ (mc wd414)) (fun _ h9 => h9) rfl dModel_take_24 ?_
  refine lv_iload_n hx hb dModel_take_27 rfl (lv_at hl 5 rfl) ?_
  refine ka_ld (v := x.1 0 j 5) hx hb hK hP 7 0 rfl rfl (by omega) (by omega) rfl dModel_take_28 ?_
  refine lv_istore hx hb dModel_take_29 hl (by decide) rfl (fun ls hl => ?_)
  have hl : lv_has ls 9 [(6, .int (x.1 0 j 5)), (5, .int (x.1 0 j 4)), (4, .int (nI t)), (3, .int (nI a)), (0, .ref (qm 0)), (1, .int k), (2, .int (nI j))] := hl
  refine lv_iconst (v := nI 4) hx hb dModel_take_31 (by decide) ?_
  refine lv_iload_n hx hb dModel_take_32 rfl (lv_at hl 3 rfl) ?_
  refine lv_imul hx hb dModel_take_33 ?_
  refine lv_topi (nm_r ((pk_mul _ _).trans (congrArg nI (Nat.mul_comm _ _))) ?_)
  refine lv_iload hx hb dModel_take_34 (lv_at hl 2 rfl) ?_
  refine lv_iadd hx hb dModel_take_36 ?_
  refine lv_topi (nm_r (nI_add _ _) ?_)
  refine lv_istore hx hb dModel_take_37 hl (by decide) rfl (fun ls hl => ?_)
  have hl : lv_has ls 9 [(7, .int (nI (a * 4 + t))), (6, .int (x.1 0 j 5)), (5, .int (x.1 0 j 4)), (4, .int (nI t)), (3, .int (nI a)), (0, .ref (qm 0)), (1, .int k), (2, .int (nI j))] := hl
  refine lv_iload_n hx hb dModel_take_39 rfl (lv_at hl 6 rfl) ?_
  refine lv_iconst (v := nI 1) hx hb dModel_take_40 (by decide) ?_
  refine lv_icmp_ne (tgt := 100) hx hb dModel_take_41 (by decide) (fun c41 => ?_) (fun c41 => ?_)
  · refine lv_iload_n hx hb dModel_take_100 rfl (lv_at hl 6 rfl) ?_
    refine lv_iconst (v := nI 2) hx hb dModel_take_101 (by decide) ?_
    refine lv_icmp_ne (tgt := 113) hx hb dModel_take_102 (by decide) (fun c102 => ?_) (fun c102 => ?_)
    · refine lv_iload_n hx hb dModel_take_113 rfl (lv_at hl 6 rfl) ?_
      refine lv_iconst (v := nI 3) hx hb dModel_take_114 (by decide) ?_
      refine lv_icmp_ne (tgt := 172) hx hb dModel_take_115 (by decide) (fun c115 => ?_) (fun c115 => ?_)
      · refine lv_iload_n hx hb dModel_take_172 rfl (lv_at hl 6 rfl) ?_
        refine lv_iconst (v := nI 4) hx hb dModel_take_173 (by decide) ?_
        refine lv_icmp_ne (tgt := 185) hx hb dModel_take_174 (by decide) (fun c174 => ?_) (fun c174 => ?_)
        · refine lv_iload_n hx hb dModel_take_185 rfl (lv_at hl 6 rfl) ?_
          refine lv_iconst (v := nI 5) hx hb dModel_take_186 (by decide) ?_
          have hk9 : k = nI 5 := hkv c41 c102 c115 c174
          refine lv_icmp_ne (tgt := 199) hx hb dModel_take_187 (by decide) (fun h9 => absurd hk9 h9) (fun _ => ?_)
          refine lv_aload_n hx hb dModel_take_190 rfl (lv_at hl 5 rfl) ?_
          refine lv_iload_n hx hb dModel_take_191 rfl (lv_at hl 4 rfl) ?_
          refine lv_iload hx hb dModel_take_192 (lv_at hl 3 rfl) ?_
          refine lv_iload hx hb dModel_take_194 (lv_at hl 1 rfl) ?_
          have hPc := hP.sub (ws' := (wM qm cI cZ n S P x)) [0, 1, 2, 3, 4, 5, 6, 7, 8, 9, 10, 11, 12, 13, 14, 15, 16, 17, 18, 19, 20] rfl
          have hDc := hD.sub (ws' := (wM qm cI cZ n S P x)) [0, 1, 2, 3, 4, 5, 6, 7, 8, 9, 10, 11, 12, 13, 14, 15, 16, 17, 18, 19, 20] (by decide) rfl
          refine kx_v (va_runV (As := [.int (nI a), .int (nI t), .int (x.1 0 j 5)]) (rest := []) ⟨hx, hb, hml, hown, hts⟩ ((m_learn l D cI cZ qm n S P x a t (x.1 0 j 5) (hn1) (hn5) (hS1) (hS4) (hP5) (hP64) (ha) (ht)) s.heap.size) (cwV 3 hts (gV wd545 wd547 sl_Model_learn wd7 wd548) rfl rfl rfl (by decide +kernel) ⟨Nat.le_of_ble_eq_true rfl, Nat.le_of_ble_eq_true rfl⟩) ⟨fb_PW, va_recv (q0 := 0) (ci := 5) hK hPc rfl rfl, pre_PW hK hPc hDc hZ⟩ rfl rfl hl.1 rfl (lv_room (Nat.le_of_ble_eq_true rfl)) dModel_take_196 ⟨Nat.zero_le _, Nat.zero_le _⟩) hP hD hS hA [0, 1, 2, 3, 4, 5, 6, 7, 8, 9, 10, 11, 12, 13, 14, 15, 16, 17, 18, 19, 20] [] rfl rfl (by decide) (by decide) (fun w1 H locs hw hP hD hS => ?_)
          obtain rfl := hw
          have hP : va_P D vwCl (wM qm cI cZ n S P (sLearn x a t (x.1 0 j 5))) H := hP
          have hD : va_D A (wM qm cI cZ n S P (sLearn x a t (x.1 0 j 5))) := hD
          exact W.vret hx hb hr (fun t9 ht9 hW9 => ⟨⟨(wM qm cI cZ n S P (sLearn x a t (x.1 0 j 5))), rfl, by rw [sTake_5 c41 c102 c115 c174], by rw [ht9]; exact hP, va_K.moved hW9.alike hK, hD⟩, hS.F ht9⟩) hS.2.2 dModel_take_199
        · refine lv_aload_n hx hb dModel_take_177 rfl (lv_at hl 5 rfl) ?_
          refine lv_iload_n hx hb dModel_take_178 rfl (lv_at hl 7 rfl) ?_
          have hPc := hP.sub (ws' := (wM qm cI cZ n S P x)) [0, 1, 2, 3, 4, 5, 6, 7, 8, 9, 10, 11, 12, 13, 14, 15, 16, 17, 18, 19, 20] rfl
          have hDc := hD.sub (ws' := (wM qm cI cZ n S P x)) [0, 1, 2, 3, 4, 5, 6, 7, 8, 9, 10, 11, 12, 13, 14, 15, 16, 17, 18, 19, 20] (by decide) rfl
          refine kx_v (va_runV (As := [.int (nI j)]) (rest := []) ⟨hx, hb, hml, hown, hts⟩ ((m_hear l D cI cZ qm n S P x j a t b (hn1) (hn5) (hS1) (hS4) (hP5) (hP64) (hj) (ha) (ht) (hbn) (hrc) (hsl) (hsd)) s.heap.size) (cwV 1 hts (gV wd541 wd543 sl_Model_hear wd7 wd544) rfl rfl rfl (by decide +kernel) ⟨Nat.le_of_ble_eq_true rfl, Nat.le_of_ble_eq_true rfl⟩) ⟨fb_PW, va_recv (q0 := 0) (ci := 5) hK hPc rfl rfl, pre_PW hK hPc hDc hZ⟩ rfl rfl hl.1 rfl (lv_room (Nat.le_of_ble_eq_true rfl)) dModel_take_179 ⟨Nat.zero_le _, Nat.zero_le _⟩) hP hD hS hA [0, 1, 2, 3, 4, 5, 6, 7, 8, 9, 10, 11, 12, 13, 14, 15, 16, 17, 18, 19, 20] [] rfl rfl (by decide) (by decide) (fun w1 H locs hw hP hD hS => ?_)
          obtain rfl := hw
          have hP : va_P D vwCl (wM qm cI cZ n S P (sHear n x a t b (x.1 0 j 4) (x.1 0 j 5))) H := hP
          have hD : va_D A (wM qm cI cZ n S P (sHear n x a t b (x.1 0 j 4) (x.1 0 j 5))) := hD
          refine lv_goto (tgt := 199) hx hb dModel_take_182 (by decide) ?_
          exact W.vret hx hb hr (fun t9 ht9 hW9 => ⟨⟨(wM qm cI cZ n S P (sHear n x a t b (x.1 0 j 4) (x.1 0 j 5))), rfl, by rw [c174, sTake_4], by rw [ht9]; exact hP, va_K.moved hW9.alike hK, hD⟩, hS.F ht9⟩) hS.2.2 dModel_take_199
      · refine lv_iload hx hb dModel_take_118 (lv_at hl 2 rfl) ?_
        refine lv_aload_n hx hb dModel_take_120 rfl (lv_at hl 5 rfl) ?_
        refine va_get (D := D) (ci := 5) (v := .ref (qm 15)) (C := RModel) (T := TModel) (N := 25) hx hb hts (fun w h => mc (uModel_in w h)) hown hK hP 0 rfl rfl 17 (by decide) (hts _ (mc wd422)) (fun _ h9 => h9) rfl dModel_take_121 ?_
        refine lv_iload hx hb dModel_take_124 (lv_at hl 0 rfl) ?_
        refine ka_ld (v := x.1 8 a t) hx hb hK hP 15 0 rfl rfl (by omega) (by omega) (sq_at (by omega)) dModel_take_126 ?_
        refine lv_icmp_lt (tgt := 172) hx hb dModel_take_127 (by decide) (fun c127 => ?_) (fun c127 => ?_)
        · refine lv_iload_n hx hb dModel_take_172 rfl (lv_at hl 6 rfl) ?_
          refine lv_iconst (v := nI 4) hx hb dModel_take_173 (by decide) ?_
          refine lv_icmp_ne (tgt := 185) hx hb dModel_take_174 (by decide) (fun _ => ?_) (fun h9 => absurd h9 (by rw [c115]; decide))
          refine lv_iload_n hx hb dModel_take_185 rfl (lv_at hl 6 rfl) ?_
          refine lv_iconst (v := nI 5) hx hb dModel_take_186 (by decide) ?_
          refine lv_icmp_ne (tgt := 199) hx hb dModel_take_187 (by decide) (fun _ => ?_) (fun h9 => absurd h9 (by rw [c115]; decide))
          exact W.vret hx hb hr (fun t9 ht9 hW9 => ⟨⟨(wM qm cI cZ n S P x), rfl, by rw [c115, sTake_3, if_neg (Int32.not_le.mpr c127)], by rw [ht9]; exact hP, va_K.moved hW9.alike hK, hD⟩, hS.F ht9⟩) hS.2.2 dModel_take_199
        · refine lv_aload_n hx hb dModel_take_130 rfl (lv_at hl 5 rfl) ?_
          refine va_get (D := D) (ci := 5) (v := .ref (qm 15)) (C := RModel) (T := TModel) (N := 25) hx hb hts (fun w h => mc (uModel_in w h)) hown hK hP 0 rfl rfl 17 (by decide) (hts _ (mc wd422)) (fun _ h9 => h9) rfl dModel_take_131 ?_
          refine lv_iload hx hb dModel_take_134 (lv_at hl 0 rfl) ?_
          refine lv_iload hx hb dModel_take_136 (lv_at hl 2 rfl) ?_
          refine ka_st (f' := sq 4 (up2 (x.1 8) a t (x.1 0 j 4))) hx hb hK hP hD hS 15 0 rfl rfl (by omega) (by omega) (sq_up (by omega)) dModel_take_138 (fun H locs hP hD hS => ?_)
          have hP : va_P D vwCl (wR qm cI cZ n S P (col (x.1 13) 0) (col (x.1 0) 0) (col (x.1 0) 1) (col (x.1 0) 2) (col (x.1 0) 3) (col (x.1 0) 4) (col (x.1 0) 5) (col (x.1 0) 6) (sq 4 (x.1 2)) (sq 4 (x.1 1)) (sq 4 (x.1 6)) (sq 4 (x.1 3)) (sq 4 (x.1 4)) (sq 4 (x.1 7)) (sq 4 (up2 (x.1 8) a t (x.1 0 j 4))) (sq 4 (x.1 9)) (sq 4 (x.1 10)) (hrm (x.2 0)) (hrm (x.2 1)) (sq 4 (x.1 11)) (x.1 12 0 0) (x.1 12 0 1)) H := hP
          have hD : va_D A (wR qm cI cZ n S P (col (x.1 13) 0) (col (x.1 0) 0) (col (x.1 0) 1) (col (x.1 0) 2) (col (x.1 0) 3) (col (x.1 0) 4) (col (x.1 0) 5) (col (x.1 0) 6) (sq 4 (x.1 2)) (sq 4 (x.1 1)) (sq 4 (x.1 6)) (sq 4 (x.1 3)) (sq 4 (x.1 4)) (sq 4 (x.1 7)) (sq 4 (up2 (x.1 8) a t (x.1 0 j 4))) (sq 4 (x.1 9)) (sq 4 (x.1 10)) (hrm (x.2 0)) (hrm (x.2 1)) (sq 4 (x.1 11)) (x.1 12 0 0) (x.1 12 0 1)) := hD
          refine lv_aload_n hx hb dModel_take_139 rfl (lv_at hl 5 rfl) ?_
          refine va_get (D := D) (ci := 5) (v := .ref (qm 16)) (C := RModel) (T := TModel) (N := 25) hx hb hts (fun w h => mc (uModel_in w h)) hown hK hP 0 rfl rfl 18 (by decide) (hts _ (mc wd423)) (fun _ h9 => h9) rfl dModel_take_140 ?_
          refine lv_iload hx hb dModel_take_143 (lv_at hl 0 rfl) ?_
          refine lv_iload hx hb dModel_take_145 (lv_at hl 2 rfl) ?_
          refine ka_st (f' := sq 4 (up2 (x.1 9) a t (x.1 0 j 4))) hx hb hK hP hD hS 16 0 rfl rfl (by omega) (by omega) (sq_up (by omega)) dModel_take_147 (fun H locs hP hD hS => ?_)
          have hP : va_P D vwCl (wR qm cI cZ n S P (col (x.1 13) 0) (col (x.1 0) 0) (col (x.1 0) 1) (col (x.1 0) 2) (col (x.1 0) 3) (col (x.1 0) 4) (col (x.1 0) 5) (col (x.1 0) 6) (sq 4 (x.1 2)) (sq 4 (x.1 1)) (sq 4 (x.1 6)) (sq 4 (x.1 3)) (sq 4 (x.1 4)) (sq 4 (x.1 7)) (sq 4 (up2 (x.1 8) a t (x.1 0 j 4))) (sq 4 (up2 (x.1 9) a t (x.1 0 j 4))) (sq 4 (x.1 10)) (hrm (x.2 0)) (hrm (x.2 1)) (sq 4 (x.1 11)) (x.1 12 0 0) (x.1 12 0 1)) H := hP
          have hD : va_D A (wR qm cI cZ n S P (col (x.1 13) 0) (col (x.1 0) 0) (col (x.1 0) 1) (col (x.1 0) 2) (col (x.1 0) 3) (col (x.1 0) 4) (col (x.1 0) 5) (col (x.1 0) 6) (sq 4 (x.1 2)) (sq 4 (x.1 1)) (sq 4 (x.1 6)) (sq 4 (x.1 3)) (sq 4 (x.1 4)) (sq 4 (x.1 7)) (sq 4 (up2 (x.1 8) a t (x.1 0 j 4))) (sq 4 (up2 (x.1 9) a t (x.1 0 j 4))) (sq 4 (x.1 10)) (hrm (x.2 0)) (hrm (x.2 1)) (sq 4 (x.1 11)) (x.1 12 0 0) (x.1 12 0 1)) := hD
          refine lv_aload_n hx hb dModel_take_148 rfl (lv_at hl 5 rfl) ?_
          refine va_get (D := D) (ci := 5) (v := .ref (qm 17)) (C := RModel) (T := TModel) (N := 25) hx hb hts (fun w h => mc (uModel_in w h)) hown hK hP 0 rfl rfl 19 (by decide) (hts _ (mc wd424)) (fun _ h9 => h9) rfl dModel_take_149 ?_
          refine lv_iload hx hb dModel_take_152 (lv_at hl 0 rfl) ?_
          refine lv_iload hx hb dModel_take_154 (lv_at hl 1 rfl) ?_
          refine ka_st (f' := sq 4 (up2 (x.1 10) a t (x.1 0 j 5))) hx hb hK hP hD hS 17 0 rfl rfl (by omega) (by omega) (sq_up (by omega)) dModel_take_156 (fun H locs hP hD hS => ?_)
          have hP : va_P D vwCl (wR qm cI cZ n S P (col (x.1 13) 0) (col (x.1 0) 0) (col (x.1 0) 1) (col (x.1 0) 2) (col (x.1 0) 3) (col (x.1 0) 4) (col (x.1 0) 5) (col (x.1 0) 6) (sq 4 (x.1 2)) (sq 4 (x.1 1)) (sq 4 (x.1 6)) (sq 4 (x.1 3)) (sq 4 (x.1 4)) (sq 4 (x.1 7)) (sq 4 (up2 (x.1 8) a t (x.1 0 j 4))) (sq 4 (up2 (x.1 9) a t (x.1 0 j 4))) (sq 4 (up2 (x.1 10) a t (x.1 0 j 5))) (hrm (x.2 0)) (hrm (x.2 1)) (sq 4 (x.1 11)) (x.1 12 0 0) (x.1 12 0 1)) H := hP
          have hD : va_D A (wR qm cI cZ n S P (col (x.1 13) 0) (col (x.1 0) 0) (col (x.1 0) 1) (col (x.1 0) 2) (col (x.1 0) 3) (col (x.1 0) 4) (col (x.1 0) 5) (col (x.1 0) 6) (sq 4 (x.1 2)) (sq 4 (x.1 1)) (sq 4 (x.1 6)) (sq 4 (x.1 3)) (sq 4 (x.1 4)) (sq 4 (x.1 7)) (sq 4 (up2 (x.1 8) a t (x.1 0 j 4))) (sq 4 (up2 (x.1 9) a t (x.1 0 j 4))) (sq 4 (up2 (x.1 10) a t (x.1 0 j 5))) (hrm (x.2 0)) (hrm (x.2 1)) (sq 4 (x.1 11)) (x.1 12 0 0) (x.1 12 0 1)) := hD
          refine lv_aload_n hx hb dModel_take_157 rfl (lv_at hl 5 rfl) ?_
          refine lv_iconst (v := nI 4) hx hb dModel_take_158 (by decide) ?_
          refine lv_iload_n hx hb dModel_take_159 rfl (lv_at hl 4 rfl) ?_
          refine lv_iload hx hb dModel_take_160 (lv_at hl 3 rfl) ?_
          refine lv_iload hx hb dModel_take_162 (lv_at hl 2 rfl) ?_
          refine lv_iload hx hb dModel_take_164 (lv_at hl 1 rfl) ?_
          have hW1 : (wR qm cI cZ n S P (col (x.1 13) 0) (col (x.1 0) 0) (col (x.1 0) 1) (col (x.1 0) 2) (col (x.1 0) 3) (col (x.1 0) 4) (col (x.1 0) 5) (col (x.1 0) 6) (sq 4 (x.1 2)) (sq 4 (x.1 1)) (sq 4 (x.1 6)) (sq 4 (x.1 3)) (sq 4 (x.1 4)) (sq 4 (x.1 7)) (sq 4 (up2 (x.1 8) a t (x.1 0 j 4))) (sq 4 (up2 (x.1 9) a t (x.1 0 j 4))) (sq 4 (up2 (x.1 10) a t (x.1 0 j 5))) (hrm (x.2 0)) (hrm (x.2 1)) (sq 4 (x.1 11)) (x.1 12 0 0) (x.1 12 0 1)) = (wM qm cI cZ n S P (sAcc x a t (x.1 0 j 4) (x.1 0 j 5))) := rfl
          rw [hW1] at hP hD
          have hPc := hP.sub (ws' := (wM qm cI cZ n S P (sAcc x a t (x.1 0 j 4) (x.1 0 j 5)))) [0, 1, 2, 3, 4, 5, 6, 7, 8, 9, 10, 11, 12, 13, 14, 15, 16, 17, 18, 19, 20] rfl
          have hDc := hD.sub (ws' := (wM qm cI cZ n S P (sAcc x a t (x.1 0 j 4) (x.1 0 j 5)))) [0, 1, 2, 3, 4, 5, 6, 7, 8, 9, 10, 11, 12, 13, 14, 15, 16, 17, 18, 19, 20] (by decide) rfl
          refine kx_v (va_runV (As := [.int (nI 4), .int (nI a), .int (nI t), .int (x.1 0 j 4), .int (x.1 0 j 5)]) (rest := []) ⟨hx, hb, hml, hown, hts⟩ ((m_sendAll l D cI cZ qm n S P (sAcc x a t (x.1 0 j 4) (x.1 0 j 5)) (nI 4) (nI a) (nI t) (x.1 0 j 4) (x.1 0 j 5) (hn1) (hn5) (hS1) (hS4) (hP5) (hP64) (Imsg_c rfl hIn.1) (fun j9 hj9 => ⟨4, a, j9, t, by decide, by decide, ha, hj9, ht, rfl, rfl, rfl, rfl, hv0⟩) (hr3 c115 (Int32.not_lt.mp c127))) H.size) (cwV 5 hts (gV wd498 wd500 sl_Model_sendAll wd7 wd501) rfl rfl rfl (by decide +kernel) ⟨Nat.le_of_ble_eq_true rfl, Nat.le_of_ble_eq_true rfl⟩) ⟨fb_PW, va_recv (q0 := 0) (ci := 5) hK hPc rfl rfl, pre_PW hK hPc hDc hZ⟩ rfl rfl hl.1 rfl (lv_room (Nat.le_of_ble_eq_true rfl)) dModel_take_166 ⟨Nat.zero_le _, Nat.zero_le _⟩) hP hD hS hA [0, 1, 2, 3, 4, 5, 6, 7, 8, 9, 10, 11, 12, 13, 14, 15, 16, 17, 18, 19, 20] [] rfl rfl (by decide) (by decide) (fun w1 H locs hw hP hD hS => ?_)
          obtain rfl := hw
          have hP : va_P D vwCl (wM qm cI cZ n S P (sendA P (sAcc x a t (x.1 0 j 4) (x.1 0 j 5)) (nI 4) (nI a) (nI t) (x.1 0 j 4) (x.1 0 j 5) n)) H := hP
          have hD : va_D A (wM qm cI cZ n S P (sendA P (sAcc x a t (x.1 0 j 4) (x.1 0 j 5)) (nI 4) (nI a) (nI t) (x.1 0 j 4) (x.1 0 j 5) n)) := hD
          refine lv_goto (tgt := 199) hx hb dModel_take_169 (by decide) ?_
          exact W.vret hx hb hr (fun t9 ht9 hW9 => ⟨⟨(wM qm cI cZ n S P (sendA P (sAcc x a t (x.1 0 j 4) (x.1 0 j 5)) (nI 4) (nI a) (nI t) (x.1 0 j 4) (x.1 0 j 5) n)), rfl, by rw [c115, sTake_3, if_pos (Int32.not_lt.mp c127)], by rw [ht9]; exact hP, va_K.moved hW9.alike hK, hD⟩, hS.F ht9⟩) hS.2.2 dModel_take_199
    · refine lv_aload_n hx hb dModel_take_105 rfl (lv_at hl 5 rfl) ?_
      refine lv_iload_n hx hb dModel_take_106 rfl (lv_at hl 7 rfl) ?_
      have hPc := hP.sub (ws' := (wM qm cI cZ n S P x)) [0, 1, 2, 3, 4, 5, 6, 7, 8, 9, 10, 11, 12, 13, 14, 15, 16, 17, 18, 19, 20] rfl
      have hDc := hD.sub (ws' := (wM qm cI cZ n S P x)) [0, 1, 2, 3, 4, 5, 6, 7, 8, 9, 10, 11, 12, 13, 14, 15, 16, 17, 18, 19, 20] (by decide) rfl
      refine kx_v (va_runV (As := [.int (nI j)]) (rest := []) ⟨hx, hb, hml, hown, hts⟩ ((m_promise l D cI cZ qm n S P x j a t b (hn1) (hn5) (hS1) (hS4) (hP5) (hP64) (hj) (ha) (ht) (hbn) (hrc) (hsl) (hsd) (hIn) (hv0) (hr2 c102)) s.heap.size) (cwV 1 hts (gV wd537 wd539 sl_Model_promise wd7 wd540) rfl rfl rfl (by decide +kernel) ⟨Nat.le_of_ble_eq_true rfl, Nat.le_of_ble_eq_true rfl⟩) ⟨fb_PW, va_recv (q0 := 0) (ci := 5) hK hPc rfl rfl, pre_PW hK hPc hDc hZ⟩ rfl rfl hl.1 rfl (lv_room (Nat.le_of_ble_eq_true rfl)) dModel_take_107 ⟨Nat.zero_le _, Nat.zero_le _⟩) hP hD hS hA [0, 1, 2, 3, 4, 5, 6, 7, 8, 9, 10, 11, 12, 13, 14, 15, 16, 17, 18, 19, 20] [] rfl rfl (by decide) (by decide) (fun w1 H locs hw hP hD hS => ?_)
      obtain rfl := hw
      have hP : va_P D vwCl (wM qm cI cZ n S P (sTake n P x (nI 2) b a t (x.1 0 j 4) (x.1 0 j 5) (x.1 0 j 6))) H := hP
      have hD : va_D A (wM qm cI cZ n S P (sTake n P x (nI 2) b a t (x.1 0 j 4) (x.1 0 j 5) (x.1 0 j 6))) := hD
      refine lv_goto (tgt := 199) hx hb dModel_take_110 (by decide) ?_
      exact W.vret hx hb hr (fun t9 ht9 hW9 => ⟨⟨(wM qm cI cZ n S P (sTake n P x (nI 2) b a t (x.1 0 j 4) (x.1 0 j 5) (x.1 0 j 6))), rfl, by rw [c102], by rw [ht9]; exact hP, va_K.moved hW9.alike hK, hD⟩, hS.F ht9⟩) hS.2.2 dModel_take_199
  · refine lv_iload hx hb dModel_take_44 (lv_at hl 2 rfl) ?_
    refine lv_aload_n hx hb dModel_take_46 rfl (lv_at hl 5 rfl) ?_
    refine va_get (D := D) (ci := 5) (v := .ref (qm 15)) (C := RModel) (T := TModel) (N := 25) hx hb hts (fun w h => mc (uModel_in w h)) hown hK hP 0 rfl rfl 17 (by decide) (hts _ (mc wd422)) (fun _ h9 => h9) rfl dModel_take_47 ?_
    refine lv_iload hx hb dModel_take_50 (lv_at hl 0 rfl) ?_
    refine ka_ld (v := x.1 8 a t) hx hb hK hP 15 0 rfl rfl (by omega) (by omega) (sq_at (by omega)) dModel_take_52 ?_
    refine lv_icmp_le (tgt := 100) hx hb dModel_take_53 (by decide) (fun c53 => ?_) (fun c53 => ?_)
    · refine lv_iload_n hx hb dModel_take_100 rfl (lv_at hl 6 rfl) ?_
      refine lv_iconst (v := nI 2) hx hb dModel_take_101 (by decide) ?_
      refine lv_icmp_ne (tgt := 113) hx hb dModel_take_102 (by decide) (fun _ => ?_) (fun h9 => absurd h9 (by rw [c41]; decide))
      refine lv_iload_n hx hb dModel_take_113 rfl (lv_at hl 6 rfl) ?_
      refine lv_iconst (v := nI 3) hx hb dModel_take_114 (by decide) ?_
      refine lv_icmp_ne (tgt := 172) hx hb dModel_take_115 (by decide) (fun _ => ?_) (fun h9 => absurd h9 (by rw [c41]; decide))
      refine lv_iload_n hx hb dModel_take_172 rfl (lv_at hl 6 rfl) ?_
      refine lv_iconst (v := nI 4) hx hb dModel_take_173 (by decide) ?_
      refine lv_icmp_ne (tgt := 185) hx hb dModel_take_174 (by decide) (fun _ => ?_) (fun h9 => absurd h9 (by rw [c41]; decide))
      refine lv_iload_n hx hb dModel_take_185 rfl (lv_at hl 6 rfl) ?_
      refine lv_iconst (v := nI 5) hx hb dModel_take_186 (by decide) ?_
      refine lv_icmp_ne (tgt := 199) hx hb dModel_take_187 (by decide) (fun _ => ?_) (fun h9 => absurd h9 (by rw [c41]; decide))
      exact W.vret hx hb hr (fun t9 ht9 hW9 => ⟨⟨(wM qm cI cZ n S P x), rfl, by rw [c41, sTake_1, if_neg (Int32.not_lt.mpr c53)], by rw [ht9]; exact hP, va_K.moved hW9.alike hK, hD⟩, hS.F ht9⟩) hS.2.2 dModel_take_199
    · refine lv_aload_n hx hb dModel_take_56 rfl (lv_at hl 5 rfl) ?_
      refine va_get (D := D) (ci := 5) (v := .ref (qm 15)) (C := RModel) (T := TModel) (N := 25) hx hb hts (fun w h => mc (uModel_in w h)) hown hK hP 0 rfl rfl 17 (by decide) (hts _ (mc wd422)) (fun _ h9 => h9) rfl dModel_take_57 ?_
      refine lv_iload hx hb dModel_take_60 (lv_at hl 0 rfl) ?_
      refine lv_iload hx hb dModel_take_62 (lv_at hl 2 rfl) ?_
      refine ka_st (f' := sq 4 (up2 (x.1 8) a t (x.1 0 j 4))) hx hb hK hP hD hS 15 0 rfl rfl (by omega) (by omega) (sq_up (by omega)) dModel_take_64 (fun H locs hP hD hS => ?_)
      have hP : va_P D vwCl (wR qm cI cZ n S P (col (x.1 13) 0) (col (x.1 0) 0) (col (x.1 0) 1) (col (x.1 0) 2) (col (x.1 0) 3) (col (x.1 0) 4) (col (x.1 0) 5) (col (x.1 0) 6) (sq 4 (x.1 2)) (sq 4 (x.1 1)) (sq 4 (x.1 6)) (sq 4 (x.1 3)) (sq 4 (x.1 4)) (sq 4 (x.1 7)) (sq 4 (up2 (x.1 8) a t (x.1 0 j 4))) (sq 4 (x.1 9)) (sq 4 (x.1 10)) (hrm (x.2 0)) (hrm (x.2 1)) (sq 4 (x.1 11)) (x.1 12 0 0) (x.1 12 0 1)) H := hP
      have hD : va_D A (wR qm cI cZ n S P (col (x.1 13) 0) (col (x.1 0) 0) (col (x.1 0) 1) (col (x.1 0) 2) (col (x.1 0) 3) (col (x.1 0) 4) (col (x.1 0) 5) (col (x.1 0) 6) (sq 4 (x.1 2)) (sq 4 (x.1 1)) (sq 4 (x.1 6)) (sq 4 (x.1 3)) (sq 4 (x.1 4)) (sq 4 (x.1 7)) (sq 4 (up2 (x.1 8) a t (x.1 0 j 4))) (sq 4 (x.1 9)) (sq 4 (x.1 10)) (hrm (x.2 0)) (hrm (x.2 1)) (sq 4 (x.1 11)) (x.1 12 0 0) (x.1 12 0 1)) := hD
      refine lv_aload_n hx hb dModel_take_65 rfl (lv_at hl 5 rfl) ?_
      refine lv_iconst (v := nI 2) hx hb dModel_take_66 (by decide) ?_
      refine lv_iload_n hx hb dModel_take_67 rfl (lv_at hl 4 rfl) ?_
      refine lv_aload_n hx hb dModel_take_68 rfl (lv_at hl 5 rfl) ?_
      refine va_get (D := D) (ci := 5) (v := .ref (qm 3)) (C := RModel) (T := TModel) (N := 25) hx hb hts (fun w h => mc (uModel_in w h)) hown hK hP 0 rfl rfl 5 (by decide) (hts _ (mc wd410)) (fun _ h9 => h9) rfl dModel_take_69 ?_
      refine lv_iload_n hx hb dModel_take_72 rfl (lv_at hl 7 rfl) ?_
      refine ka_ld (v := nI b) hx hb hK hP 3 0 rfl rfl (by omega) (by omega) hsd dModel_take_73 ?_
      refine lv_iload hx hb dModel_take_74 (lv_at hl 3 rfl) ?_
      refine lv_iload hx hb dModel_take_76 (lv_at hl 2 rfl) ?_
      refine lv_aload_n hx hb dModel_take_78 rfl (lv_at hl 5 rfl) ?_
      refine va_get (D := D) (ci := 5) (v := .ref (qm 17)) (C := RModel) (T := TModel) (N := 25) hx hb hts (fun w h => mc (uModel_in w h)) hown hK hP 0 rfl rfl 19 (by decide) (hts _ (mc wd424)) (fun _ h9 => h9) rfl dModel_take_79 ?_
      refine lv_iload hx hb dModel_take_82 (lv_at hl 0 rfl) ?_
      refine ka_ld (v := x.1 10 a t) hx hb hK hP 17 0 rfl rfl (by omega) (by omega) (sq_at (by omega)) dModel_take_84 ?_
      refine lv_aload_n hx hb dModel_take_85 rfl (lv_at hl 5 rfl) ?_
      refine va_get (D := D) (ci := 5) (v := .ref (qm 16)) (C := RModel) (T := TModel) (N := 25) hx hb hts (fun w h => mc (uModel_in w h)) hown hK hP 0 rfl rfl 18 (by decide) (hts _ (mc wd423)) (fun _ h9 => h9) rfl dModel_take_86 ?_
      refine lv_iload hx hb dModel_take_89 (lv_at hl 0 rfl) ?_
      refine ka_ld (v := x.1 9 a t) hx hb hK hP 16 0 rfl rfl (by omega) (by omega) (sq_at (by omega)) dModel_take_91 ?_
      have hW2 : (wR qm cI cZ n S P (col (x.1 13) 0) (col (x.1 0) 0) (col (x.1 0) 1) (col (x.1 0) 2) (col (x.1 0) 3) (col (x.1 0) 4) (col (x.1 0) 5) (col (x.1 0) 6) (sq 4 (x.1 2)) (sq 4 (x.1 1)) (sq 4 (x.1 6)) (sq 4 (x.1 3)) (sq 4 (x.1 4)) (sq 4 (x.1 7)) (sq 4 (up2 (x.1 8) a t (x.1 0 j 4))) (sq 4 (x.1 9)) (sq 4 (x.1 10)) (hrm (x.2 0)) (hrm (x.2 1)) (sq 4 (x.1 11)) (x.1 12 0 0) (x.1 12 0 1)) = (wM qm cI cZ n S P (put x 8 a t (x.1 0 j 4))) := rfl
      rw [hW2] at hP hD
      have hPc := hP.sub (ws' := (wM qm cI cZ n S P (put x 8 a t (x.1 0 j 4)))) [0, 1, 2, 3, 4, 5, 6, 7, 8, 9, 10, 11, 12, 13, 14, 15, 16, 17, 18, 19, 20] rfl
      have hDc := hD.sub (ws' := (wM qm cI cZ n S P (put x 8 a t (x.1 0 j 4)))) [0, 1, 2, 3, 4, 5, 6, 7, 8, 9, 10, 11, 12, 13, 14, 15, 16, 17, 18, 19, 20] (by decide) rfl
      refine kx_i (va_runV (As := [.int (nI 2), .int (nI a), .int (nI b), .int (nI t), .int (x.1 0 j 4), .int (x.1 10 a t), .int (x.1 9 a t)]) (rest := []) ⟨hx, hb, hml, hown, hts⟩ ((m_send l D cI cZ qm n S P (put x 8 a t (x.1 0 j 4)) (nI 2) (nI a) (nI b) (nI t) (x.1 0 j 4) (x.1 10 a t) (x.1 9 a t) (hn1) (hn5) (hS1) (hS4) (hP5) (hP64) (Imsg_c rfl hIn.1) (hr1)) H.size) (cwV 7 hts (gV wd502 wd504 sl_Model_send wd7 wd505) rfl rfl rfl (by decide +kernel) ⟨Nat.le_of_ble_eq_true rfl, Nat.le_of_ble_eq_true rfl⟩) ⟨fb_PW, va_recv (q0 := 0) (ci := 5) hK hPc rfl rfl, pre_PW hK hPc hDc hZ⟩ rfl rfl hl.1 rfl (lv_room (Nat.le_of_ble_eq_true rfl)) dModel_take_92 ⟨Nat.zero_le _, Nat.zero_le _⟩) hP hD hS hA [0, 1, 2, 3, 4, 5, 6, 7, 8, 9, 10, 11, 12, 13, 14, 15, 16, 17, 18, 19, 20] [] rfl rfl (by decide) (by decide) (fun r w1 H locs hw hP hD hS => ?_)
      obtain ⟨rfl, rfl⟩ := hw
      have hP : va_P D vwCl (wM qm cI cZ n S P (send1 P (put x 8 a t (x.1 0 j 4)) (nI 2) (nI a) (nI b) (nI t) (x.1 0 j 4) (x.1 10 a t) (x.1 9 a t))) H := hP
      have hD : va_D A (wM qm cI cZ n S P (send1 P (put x 8 a t (x.1 0 j 4)) (nI 2) (nI a) (nI b) (nI t) (x.1 0 j 4) (x.1 10 a t) (x.1 9 a t))) := hD
      refine lv_istore hx hb dModel_take_95 hl (by decide) rfl (fun ls hl => ?_)
      have hl : lv_has ls 9 [(8, .int (nI (lst (col ((put x 8 a t (x.1 0 j 4)).1 0) 0) P 0))), (7, .int (nI (a * 4 + t))), (6, .int (x.1 0 j 5)), (5, .int (x.1 0 j 4)), (4, .int (nI t)), (3, .int (nI a)), (0, .ref (qm 0)), (1, .int k), (2, .int (nI j))] := hl
      refine lv_goto (tgt := 199) hx hb dModel_take_97 (by decide) ?_
      exact W.vret hx hb hr (fun t9 ht9 hW9 => ⟨⟨(wM qm cI cZ n S P (send1 P (put x 8 a t (x.1 0 j 4)) (nI 2) (nI a) (nI b) (nI t) (x.1 0 j 4) (x.1 10 a t) (x.1 9 a t))), rfl, by rw [c41, sTake_1, if_pos (Int32.not_le.mp c53)], by rw [ht9]; exact hP, va_K.moved hW9.alike hK, hD⟩, hS.F ht9⟩) hS.2.2 dModel_take_199
theorem dModel_deliver_0 : decode cModel_deliver 0 = .ok (.aload_n 0, 1) := by decide +kernel
theorem dModel_deliver_1 : decode cModel_deliver 1 = .ok (.iload_n 1, 1) := by decide +kernel
theorem dModel_deliver_2 : decode cModel_deliver 2 = .ok (.invokevirtual 124, 3) := by decide +kernel
theorem dModel_deliver_5 : decode cModel_deliver 5 = .ok (.ifCond .ne 5, 3) := by decide +kernel
theorem dModel_deliver_8 : decode cModel_deliver 8 = .ok (.iconst (-1), 1) := by decide +kernel
theorem dModel_deliver_9 : decode cModel_deliver 9 = .ok (.ireturn, 1) := by decide +kernel
theorem dModel_deliver_10 : decode cModel_deliver 10 = .ok (.aload_n 0, 1) := by decide +kernel
theorem dModel_deliver_11 : decode cModel_deliver 11 = .ok (.getfield 13, 3) := by decide +kernel
theorem dModel_deliver_14 : decode cModel_deliver 14 = .ok (.iload_n 1, 1) := by decide +kernel
theorem dModel_deliver_15 : decode cModel_deliver 15 = .ok (.iaload, 1) := by decide +kernel
theorem dModel_deliver_16 : decode cModel_deliver 16 = .ok (.istore_n 2, 1) := by decide +kernel
theorem dModel_deliver_17 : decode cModel_deliver 17 = .ok (.aload_n 0, 1) := by decide +kernel
theorem dModel_deliver_18 : decode cModel_deliver 18 = .ok (.getfield 7, 3) := by decide +kernel
theorem dModel_deliver_21 : decode cModel_deliver 21 = .ok (.aload_n 0, 1) := by decide +kernel
theorem dModel_deliver_22 : decode cModel_deliver 22 = .ok (.getfield 20, 3) := by decide +kernel
theorem dModel_deliver_25 : decode cModel_deliver 25 = .ok (.iload_n 1, 1) := by decide +kernel
theorem dModel_deliver_26 : decode cModel_deliver 26 = .ok (.iaload, 1) := by decide +kernel
theorem dModel_deliver_27 : decode cModel_deliver 27 = .ok (.baload, 1) := by decide +kernel
theorem dModel_deliver_28 : decode cModel_deliver 28 = .ok (.istore_n 3, 1) := by decide +kernel
theorem dModel_deliver_29 : decode cModel_deliver 29 = .ok (.iload_n 3, 1) := by decide +kernel
theorem dModel_deliver_30 : decode cModel_deliver 30 = .ok (.ifCond .ne 20, 3) := by decide +kernel
theorem dModel_deliver_33 : decode cModel_deliver 33 = .ok (.aload_n 0, 1) := by decide +kernel
theorem dModel_deliver_34 : decode cModel_deliver 34 = .ok (.iload_n 1, 1) := by decide +kernel
theorem dModel_deliver_35 : decode cModel_deliver 35 = .ok (.invokevirtual 127, 3) := by decide +kernel
theorem dModel_deliver_38 : decode cModel_deliver 38 = .ok (.aload_n 0, 1) := by decide +kernel
theorem dModel_deliver_39 : decode cModel_deliver 39 = .ok (.invokevirtual 92, 3) := by decide +kernel
theorem dModel_deliver_42 : decode cModel_deliver 42 = .ok (.iconst 1, 1) := by decide +kernel
theorem dModel_deliver_43 : decode cModel_deliver 43 = .ok (.iadd, 1) := by decide +kernel
theorem dModel_deliver_44 : decode cModel_deliver 44 = .ok (.if_icmp .le 6, 3) := by decide +kernel
theorem dModel_deliver_47 : decode cModel_deliver 47 = .ok (.bipush (-4), 2) := by decide +kernel
theorem dModel_deliver_49 : decode cModel_deliver 49 = .ok (.ireturn, 1) := by decide +kernel
theorem dModel_deliver_50 : decode cModel_deliver 50 = .ok (.aload_n 0, 1) := by decide +kernel
theorem dModel_deliver_51 : decode cModel_deliver 51 = .ok (.getfield 13, 3) := by decide +kernel
theorem dModel_deliver_54 : decode cModel_deliver 54 = .ok (.iload_n 1, 1) := by decide +kernel
theorem dModel_deliver_55 : decode cModel_deliver 55 = .ok (.iconst 0, 1) := by decide +kernel
theorem dModel_deliver_56 : decode cModel_deliver 56 = .ok (.iastore, 1) := by decide +kernel
theorem dModel_deliver_57 : decode cModel_deliver 57 = .ok (.aload_n 0, 1) := by decide +kernel
theorem dModel_deliver_58 : decode cModel_deliver 58 = .ok (.dup, 1) := by decide +kernel
theorem dModel_deliver_59 : decode cModel_deliver 59 = .ok (.getfield 130, 3) := by decide +kernel
theorem dModel_deliver_62 : decode cModel_deliver 62 = .ok (.iconst 1, 1) := by decide +kernel
theorem dModel_deliver_63 : decode cModel_deliver 63 = .ok (.iadd, 1) := by decide +kernel
theorem dModel_deliver_64 : decode cModel_deliver 64 = .ok (.putfield 130, 3) := by decide +kernel
theorem dModel_deliver_67 : decode cModel_deliver 67 = .ok (.iload_n 3, 1) := by decide +kernel
theorem dModel_deliver_68 : decode cModel_deliver 68 = .ok (.ifCond .eq 15, 3) := by decide +kernel
theorem dModel_deliver_71 : decode cModel_deliver 71 = .ok (.aload_n 0, 1) := by decide +kernel
theorem dModel_deliver_72 : decode cModel_deliver 72 = .ok (.dup, 1) := by decide +kernel
theorem dModel_deliver_73 : decode cModel_deliver 73 = .ok (.getfield 133, 3) := by decide +kernel
theorem dModel_deliver_76 : decode cModel_deliver 76 = .ok (.iconst 1, 1) := by decide +kernel
theorem dModel_deliver_77 : decode cModel_deliver 77 = .ok (.iadd, 1) := by decide +kernel
theorem dModel_deliver_78 : decode cModel_deliver 78 = .ok (.putfield 133, 3) := by decide +kernel
theorem dModel_deliver_81 : decode cModel_deliver 81 = .ok (.iconst 0, 1) := by decide +kernel
theorem dModel_deliver_82 : decode cModel_deliver 82 = .ok (.ireturn, 1) := by decide +kernel
theorem dModel_deliver_83 : decode cModel_deliver 83 = .ok (.aload_n 0, 1) := by decide +kernel
theorem dModel_deliver_84 : decode cModel_deliver 84 = .ok (.iload_n 2, 1) := by decide +kernel
theorem dModel_deliver_85 : decode cModel_deliver 85 = .ok (.iload_n 1, 1) := by decide +kernel
theorem dModel_deliver_86 : decode cModel_deliver 86 = .ok (.invokevirtual 136, 3) := by decide +kernel
theorem dModel_deliver_89 : decode cModel_deliver 89 = .ok (.iload_n 2, 1) := by decide +kernel
theorem dModel_deliver_90 : decode cModel_deliver 90 = .ok (.ireturn, 1) := by decide +kernel
set_option maxRecDepth 100000 in
set_option maxHeartbeats 4000000 in
theorem m_deliver (l : Launch) (D : va_G) (cI cZ : ClassId) (qm : Nat → Nat) (n : Nat) (S : Nat) (P : Nat) (x : St) (v : Int32) (hn1 : 1 ≤ n) (hn5 : n ≤ 5) (hS1 : 1 ≤ S) (hS4 : S ≤ 4) (hP5 : 5 ≤ P) (hP64 : P ≤ 64) (hIn : Inv n S x) : MI l D [(cI, .int), (cZ, .boolean)] yModel_deliver wsModel_deliver ({ frames := 4, cells := 0, slots := 0, locals := 105 }) [.ref (qm 0), .int v] (wM qm cI cZ n S P x) (fun r w => r = (sDel n P x v).1 ∧ w = (wM qm cI cZ n S P (sDel n P x v).2)) := by
  intro sz
  refine Met.ofW (cc := cModel_deliver) (maxL := 4) (ret := (Option.some .int)) (by decide) rfl ?_
  intro p e s m args below meth c s₁ B hml hv
  obtain ⟨rfl, hsz, hP, hK, hD0, hZ⟩ := hv
  have hx := B.exec
  have hb := B.bytes
  have hr := B.returns
  have hts := atoms_spec (ws := wsModel_deliver) B.pre
  have hown : s.vm.findClass RModel = some m.cls := findClass_of_methodNamed B.named
  have hlocks := B.notSynchronized
  subst hsz
  have hD := hD0.self (sz := s.heap.size)
  generalize hAe : va_A (wM qm cI cZ n S P x) s.heap.size = A at hD ⊢
  have hA : ∀ q : Nat, s.heap.size ≤ q → A q := fun q h => by rw [← hAe]; exact Or.inr h
  have hS : va_S A s.heap s.heap [] := va_S.rf
  have hP : va_P D vwCl (wM qm cI cZ n S P x) s.heap := hP
  have hl := lv_entry ([.ref (qm 0), .int v]) (n := 4) (Nat.le_of_ble_eq_true rfl)
  rw [lg_entry_eq]
  generalize (lg_sl ([.ref (qm 0), .int v]) ++ List.replicate (4 - (lg_sl ([.ref (qm 0), .int v])).length) Slot.unset).toArray = ls at hl ⊢
  have hl : lv_has ls 4 [(0, .ref (qm 0)), (1, .int v)] := hl
  refine lv_aload_n hx hb dModel_deliver_0 rfl (lv_at hl 0 rfl) ?_
  refine lv_iload_n hx hb dModel_deliver_1 rfl (lv_at hl 1 rfl) ?_
  have hPc := hP.sub (ws' := (wM qm cI cZ n S P x)) [0, 1, 2, 3, 4, 5, 6, 7, 8, 9, 10, 11, 12, 13, 14, 15, 16, 17, 18, 19, 20] rfl
  have hDc := hD.sub (ws' := (wM qm cI cZ n S P x)) [0, 1, 2, 3, 4, 5, 6, 7, 8, 9, 10, 11, 12, 13, 14, 15, 16, 17, 18, 19, 20] (by decide) rfl
  refine kx_i (va_runV (As := [.int v]) (rest := []) ⟨hx, hb, hml, hown, hts⟩ ((m_isMessage l D cI cZ qm n S P x v (hn1) (hn5) (hS1) (hS4) (hP5) (hP64) (hIn.1)) s.heap.size) (cwV 1 hts (gV wd510 wd512 sl_Model_isMessage wd7 wd513) rfl rfl rfl (by decide +kernel) ⟨Nat.le_of_ble_eq_true rfl, Nat.le_of_ble_eq_true rfl⟩) ⟨fb_PW, va_recv (q0 := 0) (ci := 5) hK hPc rfl rfl, pre_PW hK hPc hDc hZ⟩ rfl rfl hl.1 rfl (lv_room (Nat.le_of_ble_eq_true rfl)) dModel_deliver_2 ⟨Nat.zero_le _, Nat.zero_le _⟩) hP hD hS hA [0, 1, 2, 3, 4, 5, 6, 7, 8, 9, 10, 11, 12, 13, 14, 15, 16, 17, 18, 19, 20] [] rfl rfl (by decide) (by decide) (fun r w1 H locs hw hP hD hS => ?_)
  rcases hw with ⟨rfl, h2, rfl⟩ | ⟨rfl, h2, rfl⟩
  · have hP : va_P D vwCl (wM qm cI cZ n S P x) H := hP
    have hD : va_D A (wM qm cI cZ n S P x) := hD
    obtain ⟨j, hj, rfl⟩ := okN_of (show P < 2 ^ 31 by omega) h2.1
    have hk0 : x.1 0 j 0 ≠ 0 := by have h6 := h2.2; rw [ix_nI hj (by omega)] at h6; exact h6
    have hisM : isM P x (nI j) := h2
    obtain ⟨k9, b, a, t, hk1, hk5, hbn, ha, ht, hkk, hsd, hrc, hsl, hv0⟩ := hIn.1 j hk0
    have iA : ix (x.1 0 j 2) = a := by rw [hrc]; exact ix_nI ha (by omega)
    have iT : ix (x.1 0 j 3) = t := by rw [hsl]; exact ix_nI ht (by omega)
    have iB : ix (x.1 0 j 1) = b := by rw [hsd]; exact ix_nI hbn (by omega)
    have hall : sAll n x j ↔ ((x.1 0 j 0 = nI 2 ∧ ((x.1 1 a t = nI 1 ∧ x.1 2 a t = x.1 0 j 4) ∧ n < 2 * popn (ix (orb (x.1 3 a t) (nI b))))) ∨ (x.1 0 j 0 = nI 3 ∧ x.1 8 a t ≤ x.1 0 j 4)) := by
      unfold sAll sWins
      rw [iA, iT, hsd]
    have hc := cnt_out hj hk0
    have hcl : cntx P x ≤ P := cnt_le _ _
    have o1 : (sOut x j).1 0 j 1 = x.1 0 j 1 := out_f (by decide)
    have o2 : (sOut x j).1 0 j 2 = x.1 0 j 2 := out_f (by decide)
    have o3 : (sOut x j).1 0 j 3 = x.1 0 j 3 := out_f (by decide)
    have o4 : (sOut x j).1 0 j 4 = x.1 0 j 4 := out_f (by decide)
    have o5 : (sOut x j).1 0 j 5 = x.1 0 j 5 := out_f (by decide)
    have o6 : (sOut x j).1 0 j 6 = x.1 0 j 6 := out_f (by decide)
    refine lv_if_ne (tgt := 10) hx hb dModel_deliver_5 (by decide) (fun _ => ?_) (fun h9 => absurd h9 (by decide))
    refine lv_aload_n hx hb dModel_deliver_10 rfl (lv_at hl 0 rfl) ?_
    refine va_get (D := D) (ci := 5) (v := .ref (qm 2)) (C := RModel) (T := TModel) (N := 25) hx hb hts (fun w h => mc (uModel_in w h)) hown hK hP 0 rfl rfl 4 (by decide) (hts _ (mc wd409)) (fun _ h9 => h9) rfl dModel_deliver_11 ?_
    refine lv_iload_n hx hb dModel_deliver_14 rfl (lv_at hl 1 rfl) ?_
    refine ka_ld (v := x.1 0 j 0) hx hb hK hP 2 0 rfl rfl (by omega) (by omega) rfl dModel_deliver_15 ?_
    refine lv_istore_n hx hb dModel_deliver_16 rfl hl (by decide) rfl (fun ls hl => ?_)
    have hl : lv_has ls 4 [(2, .int (x.1 0 j 0)), (0, .ref (qm 0)), (1, .int (nI j))] := hl
    refine lv_aload_n hx hb dModel_deliver_17 rfl (lv_at hl 1 rfl) ?_
    refine va_get (D := D) (ci := 5) (v := .ref (qm 1)) (C := RModel) (T := TModel) (N := 25) hx hb hts (fun w h => mc (uModel_in w h)) hown hK hP 0 rfl rfl 3 (by decide) (hts _ (mc wd408)) (fun _ h9 => h9) rfl dModel_deliver_18 ?_
    refine lv_aload_n hx hb dModel_deliver_21 rfl (lv_at hl 1 rfl) ?_
    refine va_get (D := D) (ci := 5) (v := .ref (qm 4)) (C := RModel) (T := TModel) (N := 25) hx hb hts (fun w h => mc (uModel_in w h)) hown hK hP 0 rfl rfl 6 (by decide) (hts _ (mc wd411)) (fun _ h9 => h9) rfl dModel_deliver_22 ?_
    refine lv_iload_n hx hb dModel_deliver_25 rfl (lv_at hl 2 rfl) ?_
    refine ka_ld (v := nI a) hx hb hK hP 4 0 rfl rfl (by omega) (by omega) hrc dModel_deliver_26 ?_
    refine ka_zld (v := x.1 13 a 0) hx hb hK hP 1 1 rfl rfl (by omega) (by omega) rfl dModel_deliver_27 ?_
    refine lv_istore_n hx hb dModel_deliver_28 rfl hl (by decide) rfl (fun ls hl => ?_)
    have hl : lv_has ls 4 [(3, .int (x.1 13 a 0)), (2, .int (x.1 0 j 0)), (0, .ref (qm 0)), (1, .int (nI j))] := hl
    refine lv_iload_n hx hb dModel_deliver_29 rfl (lv_at hl 0 rfl) ?_
    refine lv_if_ne (tgt := 50) hx hb dModel_deliver_30 (by decide) (fun c30 => ?_) (fun c30 => ?_)
    · have hNB : ¬ sBlk n P x j := fun h => c30 (by have h7 := h.1; rw [iA] at h7; exact h7)
      refine lv_aload_n hx hb dModel_deliver_50 rfl (lv_at hl 2 rfl) ?_
      refine va_get (D := D) (ci := 5) (v := .ref (qm 2)) (C := RModel) (T := TModel) (N := 25) hx hb hts (fun w h => mc (uModel_in w h)) hown hK hP 0 rfl rfl 4 (by decide) (hts _ (mc wd409)) (fun _ h9 => h9) rfl dModel_deliver_51 ?_
      refine lv_iload_n hx hb dModel_deliver_54 rfl (lv_at hl 3 rfl) ?_
      refine lv_iconst (v := nI 0) hx hb dModel_deliver_55 (by decide) ?_
      refine ka_st (f' := col (up2 (x.1 0) j 0 (nI 0)) 0) hx hb hK hP hD hS 2 0 rfl rfl (by omega) (by omega) col_up dModel_deliver_56 (fun H locs hP hD hS => ?_)
      have hP : va_P D vwCl (wR qm cI cZ n S P (col (x.1 13) 0) (col (up2 (x.1 0) j 0 (nI 0)) 0) (col (x.1 0) 1) (col (x.1 0) 2) (col (x.1 0) 3) (col (x.1 0) 4) (col (x.1 0) 5) (col (x.1 0) 6) (sq 4 (x.1 2)) (sq 4 (x.1 1)) (sq 4 (x.1 6)) (sq 4 (x.1 3)) (sq 4 (x.1 4)) (sq 4 (x.1 7)) (sq 4 (x.1 8)) (sq 4 (x.1 9)) (sq 4 (x.1 10)) (hrm (x.2 0)) (hrm (x.2 1)) (sq 4 (x.1 11)) (x.1 12 0 0) (x.1 12 0 1)) H := hP
      have hD : va_D A (wR qm cI cZ n S P (col (x.1 13) 0) (col (up2 (x.1 0) j 0 (nI 0)) 0) (col (x.1 0) 1) (col (x.1 0) 2) (col (x.1 0) 3) (col (x.1 0) 4) (col (x.1 0) 5) (col (x.1 0) 6) (sq 4 (x.1 2)) (sq 4 (x.1 1)) (sq 4 (x.1 6)) (sq 4 (x.1 3)) (sq 4 (x.1 4)) (sq 4 (x.1 7)) (sq 4 (x.1 8)) (sq 4 (x.1 9)) (sq 4 (x.1 10)) (hrm (x.2 0)) (hrm (x.2 1)) (sq 4 (x.1 11)) (x.1 12 0 0) (x.1 12 0 1)) := hD
      refine lv_aload_n hx hb dModel_deliver_57 rfl (lv_at hl 2 rfl) ?_
      refine lv_dup hx hb dModel_deliver_58 rfl ?_
      refine va_get (D := D) (ci := 5) (v := .int (x.1 12 0 0)) (C := RModel) (T := TModel) (N := 25) hx hb hts (fun w h => mc (uModel_in w h)) hown hK hP 0 rfl rfl 23 (by decide) (hts _ (mc wd428)) (fun _ h9 => h9) rfl dModel_deliver_59 ?_
      refine lv_iconst (v := nI 1) hx hb dModel_deliver_62 (by decide) ?_
      refine lv_iadd hx hb dModel_deliver_63 ?_
      refine va_put (D := D) (ci := 5) (v := .int ((x.1 12 0 0) + (nI 1))) (ty := .int) (C := RModel) (T := TModel) (N := 25) hx hb hts (fun w h => mc (uModel_in w h)) tyModel tyModel_ok nmModel hown hK hP hD hS 0 rfl rfl 23 (by decide) (hts _ (mc wd428)) (fun _ h9 => h9) rfl (by decide +kernel) rfl rfl (Nat.le_of_ble_eq_true rfl) dModel_deliver_64 (fun H locs hP hD hS => ?_)
      have hP : va_P D vwCl (wR qm cI cZ n S P (col (x.1 13) 0) (col (up2 (x.1 0) j 0 (nI 0)) 0) (col (x.1 0) 1) (col (x.1 0) 2) (col (x.1 0) 3) (col (x.1 0) 4) (col (x.1 0) 5) (col (x.1 0) 6) (sq 4 (x.1 2)) (sq 4 (x.1 1)) (sq 4 (x.1 6)) (sq 4 (x.1 3)) (sq 4 (x.1 4)) (sq 4 (x.1 7)) (sq 4 (x.1 8)) (sq 4 (x.1 9)) (sq 4 (x.1 10)) (hrm (x.2 0)) (hrm (x.2 1)) (sq 4 (x.1 11)) ((x.1 12 0 0) + (nI 1)) (x.1 12 0 1)) H := hP
      have hD : va_D A (wR qm cI cZ n S P (col (x.1 13) 0) (col (up2 (x.1 0) j 0 (nI 0)) 0) (col (x.1 0) 1) (col (x.1 0) 2) (col (x.1 0) 3) (col (x.1 0) 4) (col (x.1 0) 5) (col (x.1 0) 6) (sq 4 (x.1 2)) (sq 4 (x.1 1)) (sq 4 (x.1 6)) (sq 4 (x.1 3)) (sq 4 (x.1 4)) (sq 4 (x.1 7)) (sq 4 (x.1 8)) (sq 4 (x.1 9)) (sq 4 (x.1 10)) (hrm (x.2 0)) (hrm (x.2 1)) (sq 4 (x.1 11)) ((x.1 12 0 0) + (nI 1)) (x.1 12 0 1)) := hD
      have hW1 : (wR qm cI cZ n S P (col (x.1 13) 0) (col (up2 (x.1 0) j 0 (nI 0)) 0) (col (x.1 0) 1) (col (x.1 0) 2) (col (x.1 0) 3) (col (x.1 0) 4) (col (x.1 0) 5) (col (x.1 0) 6) (sq 4 (x.1 2)) (sq 4 (x.1 1)) (sq 4 (x.1 6)) (sq 4 (x.1 3)) (sq 4 (x.1 4)) (sq 4 (x.1 7)) (sq 4 (x.1 8)) (sq 4 (x.1 9)) (sq 4 (x.1 10)) (hrm (x.2 0)) (hrm (x.2 1)) (sq 4 (x.1 11)) ((x.1 12 0 0) + (nI 1)) (x.1 12 0 1)) = (wM qm cI cZ n S P (sOut x j)) := wM_k0.trans (by rw [put12_id]; rfl)
      rw [hW1] at hP hD
      refine lv_iload_n hx hb dModel_deliver_67 rfl (lv_at hl 0 rfl) ?_
      refine lv_if_eq (tgt := 83) hx hb dModel_deliver_68 (by decide) (fun h9 => absurd h9 c30) (fun _ => ?_)
      refine lv_aload_n hx hb dModel_deliver_71 rfl (lv_at hl 2 rfl) ?_
      refine lv_dup hx hb dModel_deliver_72 rfl ?_
      refine va_get (D := D) (ci := 5) (v := .int ((sOut x j).1 12 0 1)) (C := RModel) (T := TModel) (N := 25) hx hb hts (fun w h => mc (uModel_in w h)) hown hK hP 0 rfl rfl 24 (by decide) (hts _ (mc wd429)) (fun _ h9 => h9) rfl dModel_deliver_73 ?_
      refine lv_iconst (v := nI 1) hx hb dModel_deliver_76 (by decide) ?_
      refine lv_iadd hx hb dModel_deliver_77 ?_
      refine va_put (D := D) (ci := 5) (v := .int (((sOut x j).1 12 0 1) + (nI 1))) (ty := .int) (C := RModel) (T := TModel) (N := 25) hx hb hts (fun w h => mc (uModel_in w h)) tyModel tyModel_ok nmModel hown hK hP hD hS 0 rfl rfl 24 (by decide) (hts _ (mc wd429)) (fun _ h9 => h9) rfl (by decide +kernel) rfl rfl (Nat.le_of_ble_eq_true rfl) dModel_deliver_78 (fun H locs hP hD hS => ?_)
      have hP : va_P D vwCl (wR qm cI cZ n S P (col ((sOut x j).1 13) 0) (col ((sOut x j).1 0) 0) (col ((sOut x j).1 0) 1) (col ((sOut x j).1 0) 2) (col ((sOut x j).1 0) 3) (col ((sOut x j).1 0) 4) (col ((sOut x j).1 0) 5) (col ((sOut x j).1 0) 6) (sq 4 ((sOut x j).1 2)) (sq 4 ((sOut x j).1 1)) (sq 4 ((sOut x j).1 6)) (sq 4 ((sOut x j).1 3)) (sq 4 ((sOut x j).1 4)) (sq 4 ((sOut x j).1 7)) (sq 4 ((sOut x j).1 8)) (sq 4 ((sOut x j).1 9)) (sq 4 ((sOut x j).1 10)) (hrm ((sOut x j).2 0)) (hrm ((sOut x j).2 1)) (sq 4 ((sOut x j).1 11)) ((sOut x j).1 12 0 0) (((sOut x j).1 12 0 1) + (nI 1))) H := hP
      have hD : va_D A (wR qm cI cZ n S P (col ((sOut x j).1 13) 0) (col ((sOut x j).1 0) 0) (col ((sOut x j).1 0) 1) (col ((sOut x j).1 0) 2) (col ((sOut x j).1 0) 3) (col ((sOut x j).1 0) 4) (col ((sOut x j).1 0) 5) (col ((sOut x j).1 0) 6) (sq 4 ((sOut x j).1 2)) (sq 4 ((sOut x j).1 1)) (sq 4 ((sOut x j).1 6)) (sq 4 ((sOut x j).1 3)) (sq 4 ((sOut x j).1 4)) (sq 4 ((sOut x j).1 7)) (sq 4 ((sOut x j).1 8)) (sq 4 ((sOut x j).1 9)) (sq 4 ((sOut x j).1 10)) (hrm ((sOut x j).2 0)) (hrm ((sOut x j).2 1)) (sq 4 ((sOut x j).1 11)) ((sOut x j).1 12 0 0) (((sOut x j).1 12 0 1) + (nI 1))) := hD
      have hW2 : (wR qm cI cZ n S P (col ((sOut x j).1 13) 0) (col ((sOut x j).1 0) 0) (col ((sOut x j).1 0) 1) (col ((sOut x j).1 0) 2) (col ((sOut x j).1 0) 3) (col ((sOut x j).1 0) 4) (col ((sOut x j).1 0) 5) (col ((sOut x j).1 0) 6) (sq 4 ((sOut x j).1 2)) (sq 4 ((sOut x j).1 1)) (sq 4 ((sOut x j).1 6)) (sq 4 ((sOut x j).1 3)) (sq 4 ((sOut x j).1 4)) (sq 4 ((sOut x j).1 7)) (sq 4 ((sOut x j).1 8)) (sq 4 ((sOut x j).1 9)) (sq 4 ((sOut x j).1 10)) (hrm ((sOut x j).2 0)) (hrm ((sOut x j).2 1)) (sq 4 ((sOut x j).1 11)) ((sOut x j).1 12 0 0) (((sOut x j).1 12 0 1) + (nI 1))) = (wM qm cI cZ n S P (sLost (sOut x j))) := rfl
      rw [hW2] at hP hD
      refine lv_iconst (v := nI 0) hx hb dModel_deliver_81 (by decide) ?_
      exact W.iret (v := nI 0) hx hb hr (fun t9 ht9 hW9 => ⟨⟨nI 0, (wM qm cI cZ n S P (sLost (sOut x j))), rfl, fin3 (by unfold sDel; rw [if_pos hisM, ix_nI hj (by omega), if_neg hNB, sHo_d iA c30]), by rw [ht9]; exact hP, va_K.moved hW9.alike hK, hD⟩, hS.F ht9⟩) hS.2.2 dModel_deliver_82
    · refine lv_aload_n hx hb dModel_deliver_33 rfl (lv_at hl 2 rfl) ?_
      refine lv_iload_n hx hb dModel_deliver_34 rfl (lv_at hl 3 rfl) ?_
      have hPc := hP.sub (ws' := (wM qm cI cZ n S P x)) [0, 1, 2, 3, 4, 5, 6, 7, 8, 9, 10, 11, 12, 13, 14, 15, 16, 17, 18, 19, 20] rfl
      have hDc := hD.sub (ws' := (wM qm cI cZ n S P x)) [0, 1, 2, 3, 4, 5, 6, 7, 8, 9, 10, 11, 12, 13, 14, 15, 16, 17, 18, 19, 20] (by decide) rfl
      refine kx_i (va_runV (As := [.int (nI j)]) (rest := []) ⟨hx, hb, hml, hown, hts⟩ ((m_sends l D cI cZ qm n S P x j a t b (hn1) (hn5) (hS1) (hS4) (hP5) (hP64) (by omega) (ha) (ht) (hbn) (hrc) (hsl) (hsd) (hIn.2.2.2.2)) H.size) (cwV 1 hts (gV wd514 wd516 sl_Model_sends wd7 wd517) rfl rfl rfl (by decide +kernel) ⟨Nat.le_of_ble_eq_true rfl, Nat.le_of_ble_eq_true rfl⟩) ⟨fb_PW, va_recv (q0 := 0) (ci := 5) hK hPc rfl rfl, pre_PW hK hPc hDc hZ⟩ rfl rfl hl.1 rfl (lv_room (Nat.le_of_ble_eq_true rfl)) dModel_deliver_35 ⟨Nat.zero_le _, Nat.zero_le _⟩) hP hD hS hA [0, 1, 2, 3, 4, 5, 6, 7, 8, 9, 10, 11, 12, 13, 14, 15, 16, 17, 18, 19, 20] [] rfl rfl (by decide) (by decide) (fun r w1 H locs hw hP hD hS => ?_)
      rcases hw with ⟨rfl, h35, rfl⟩ | ⟨ks9, rfl, h35, rfl⟩
      · have hP : va_P D vwCl (wM qm cI cZ n S P x) H := hP
        have hD : va_D A (wM qm cI cZ n S P x) := hD
        refine lv_aload_n hx hb dModel_deliver_38 rfl (lv_at hl 2 rfl) ?_
        have hPc := hP.sub (ws' := (wM qm cI cZ n S P x)) [0, 1, 2, 3, 4, 5, 6, 7, 8, 9, 10, 11, 12, 13, 14, 15, 16, 17, 18, 19, 20] rfl
        have hDc := hD.sub (ws' := (wM qm cI cZ n S P x)) [0, 1, 2, 3, 4, 5, 6, 7, 8, 9, 10, 11, 12, 13, 14, 15, 16, 17, 18, 19, 20] (by decide) rfl
        refine kx_i (va_runV (As := []) (rest := [.int (nI n)]) ⟨hx, hb, hml, hown, hts⟩ ((m_empty l D cI cZ qm n S P x (hn1) (hn5) (hS1) (hS4) (hP5) (hP64)) H.size) (cwV 0 hts (gV wd494 wd496 sl_Model_empty wd7 wd497) rfl rfl rfl (by decide +kernel) ⟨Nat.le_of_ble_eq_true rfl, Nat.le_of_ble_eq_true rfl⟩) ⟨fb_PW, va_recv (q0 := 0) (ci := 5) hK hPc rfl rfl, pre_PW hK hPc hDc hZ⟩ rfl rfl hl.1 rfl (lv_room (Nat.le_of_ble_eq_true rfl)) dModel_deliver_39 ⟨Nat.zero_le _, Nat.zero_le _⟩) hP hD hS hA [0, 1, 2, 3, 4, 5, 6, 7, 8, 9, 10, 11, 12, 13, 14, 15, 16, 17, 18, 19, 20] [] rfl rfl (by decide) (by decide) (fun r w1 H locs hw hP hD hS => ?_)
        obtain ⟨rfl, rfl⟩ := hw
        have hP : va_P D vwCl (wM qm cI cZ n S P x) H := hP
        have hD : va_D A (wM qm cI cZ n S P x) := hD
        refine lv_iconst (v := nI 1) hx hb dModel_deliver_42 (by decide) ?_
        refine lv_iadd hx hb dModel_deliver_43 ?_
        refine lv_topi (nm_r (nI_add _ _) ?_)
        refine lv_icmp_le (tgt := 50) hx hb dModel_deliver_44 (by decide) (fun c44 => ?_) (fun c44 => ?_)
        · have hNB : ¬ sBlk n P x j := fun h => absurd c44 (nI_ge h.2.1 (by omega))
          refine lv_aload_n hx hb dModel_deliver_50 rfl (lv_at hl 2 rfl) ?_
          refine va_get (D := D) (ci := 5) (v := .ref (qm 2)) (C := RModel) (T := TModel) (N := 25) hx hb hts (fun w h => mc (uModel_in w h)) hown hK hP 0 rfl rfl 4 (by decide) (hts _ (mc wd409)) (fun _ h9 => h9) rfl dModel_deliver_51 ?_
          refine lv_iload_n hx hb dModel_deliver_54 rfl (lv_at hl 3 rfl) ?_
          refine lv_iconst (v := nI 0) hx hb dModel_deliver_55 (by decide) ?_
          refine ka_st (f' := col (up2 (x.1 0) j 0 (nI 0)) 0) hx hb hK hP hD hS 2 0 rfl rfl (by omega) (by omega) col_up dModel_deliver_56 (fun H locs hP hD hS => ?_)
          have hP : va_P D vwCl (wR qm cI cZ n S P (col (x.1 13) 0) (col (up2 (x.1 0) j 0 (nI 0)) 0) (col (x.1 0) 1) (col (x.1 0) 2) (col (x.1 0) 3) (col (x.1 0) 4) (col (x.1 0) 5) (col (x.1 0) 6) (sq 4 (x.1 2)) (sq 4 (x.1 1)) (sq 4 (x.1 6)) (sq 4 (x.1 3)) (sq 4 (x.1 4)) (sq 4 (x.1 7)) (sq 4 (x.1 8)) (sq 4 (x.1 9)) (sq 4 (x.1 10)) (hrm (x.2 0)) (hrm (x.2 1)) (sq 4 (x.1 11)) (x.1 12 0 0) (x.1 12 0 1)) H := hP
          have hD : va_D A (wR qm cI cZ n S P (col (x.1 13) 0) (col (up2 (x.1 0) j 0 (nI 0)) 0) (col (x.1 0) 1) (col (x.1 0) 2) (col (x.1 0) 3) (col (x.1 0) 4) (col (x.1 0) 5) (col (x.1 0) 6) (sq 4 (x.1 2)) (sq 4 (x.1 1)) (sq 4 (x.1 6)) (sq 4 (x.1 3)) (sq 4 (x.1 4)) (sq 4 (x.1 7)) (sq 4 (x.1 8)) (sq 4 (x.1 9)) (sq 4 (x.1 10)) (hrm (x.2 0)) (hrm (x.2 1)) (sq 4 (x.1 11)) (x.1 12 0 0) (x.1 12 0 1)) := hD
          refine lv_aload_n hx hb dModel_deliver_57 rfl (lv_at hl 2 rfl) ?_
          refine lv_dup hx hb dModel_deliver_58 rfl ?_
          refine va_get (D := D) (ci := 5) (v := .int (x.1 12 0 0)) (C := RModel) (T := TModel) (N := 25) hx hb hts (fun w h => mc (uModel_in w h)) hown hK hP 0 rfl rfl 23 (by decide) (hts _ (mc wd428)) (fun _ h9 => h9) rfl dModel_deliver_59 ?_
          refine lv_iconst (v := nI 1) hx hb dModel_deliver_62 (by decide) ?_
          refine lv_iadd hx hb dModel_deliver_63 ?_
          refine va_put (D := D) (ci := 5) (v := .int ((x.1 12 0 0) + (nI 1))) (ty := .int) (C := RModel) (T := TModel) (N := 25) hx hb hts (fun w h => mc (uModel_in w h)) tyModel tyModel_ok nmModel hown hK hP hD hS 0 rfl rfl 23 (by decide) (hts _ (mc wd428)) (fun _ h9 => h9) rfl (by decide +kernel) rfl rfl (Nat.le_of_ble_eq_true rfl) dModel_deliver_64 (fun H locs hP hD hS => ?_)
          have hP : va_P D vwCl (wR qm cI cZ n S P (col (x.1 13) 0) (col (up2 (x.1 0) j 0 (nI 0)) 0) (col (x.1 0) 1) (col (x.1 0) 2) (col (x.1 0) 3) (col (x.1 0) 4) (col (x.1 0) 5) (col (x.1 0) 6) (sq 4 (x.1 2)) (sq 4 (x.1 1)) (sq 4 (x.1 6)) (sq 4 (x.1 3)) (sq 4 (x.1 4)) (sq 4 (x.1 7)) (sq 4 (x.1 8)) (sq 4 (x.1 9)) (sq 4 (x.1 10)) (hrm (x.2 0)) (hrm (x.2 1)) (sq 4 (x.1 11)) ((x.1 12 0 0) + (nI 1)) (x.1 12 0 1)) H := hP
          have hD : va_D A (wR qm cI cZ n S P (col (x.1 13) 0) (col (up2 (x.1 0) j 0 (nI 0)) 0) (col (x.1 0) 1) (col (x.1 0) 2) (col (x.1 0) 3) (col (x.1 0) 4) (col (x.1 0) 5) (col (x.1 0) 6) (sq 4 (x.1 2)) (sq 4 (x.1 1)) (sq 4 (x.1 6)) (sq 4 (x.1 3)) (sq 4 (x.1 4)) (sq 4 (x.1 7)) (sq 4 (x.1 8)) (sq 4 (x.1 9)) (sq 4 (x.1 10)) (hrm (x.2 0)) (hrm (x.2 1)) (sq 4 (x.1 11)) ((x.1 12 0 0) + (nI 1)) (x.1 12 0 1)) := hD
          have hW3 : (wR qm cI cZ n S P (col (x.1 13) 0) (col (up2 (x.1 0) j 0 (nI 0)) 0) (col (x.1 0) 1) (col (x.1 0) 2) (col (x.1 0) 3) (col (x.1 0) 4) (col (x.1 0) 5) (col (x.1 0) 6) (sq 4 (x.1 2)) (sq 4 (x.1 1)) (sq 4 (x.1 6)) (sq 4 (x.1 3)) (sq 4 (x.1 4)) (sq 4 (x.1 7)) (sq 4 (x.1 8)) (sq 4 (x.1 9)) (sq 4 (x.1 10)) (hrm (x.2 0)) (hrm (x.2 1)) (sq 4 (x.1 11)) ((x.1 12 0 0) + (nI 1)) (x.1 12 0 1)) = (wM qm cI cZ n S P (sOut x j)) := wM_k0.trans (by rw [put12_id]; rfl)
          rw [hW3] at hP hD
          refine lv_iload_n hx hb dModel_deliver_67 rfl (lv_at hl 0 rfl) ?_
          refine lv_if_eq (tgt := 83) hx hb dModel_deliver_68 (by decide) (fun _ => ?_) (fun h9 => absurd c30 h9)
          refine lv_aload_n hx hb dModel_deliver_83 rfl (lv_at hl 2 rfl) ?_
          refine lv_iload_n hx hb dModel_deliver_84 rfl (lv_at hl 1 rfl) ?_
          refine lv_iload_n hx hb dModel_deliver_85 rfl (lv_at hl 3 rfl) ?_
          have hroom : sAll n x j → n ≤ P - cntx P x + 1 := fun h1 => Nat.le_of_not_lt (fun q => hNB ⟨by rw [iA]; exact c30, q, h1⟩)
          have hPc := hP.sub (ws' := (wM qm cI cZ n S P (sOut x j))) [0, 1, 2, 3, 4, 5, 6, 7, 8, 9, 10, 11, 12, 13, 14, 15, 16, 17, 18, 19, 20] rfl
          have hDc := hD.sub (ws' := (wM qm cI cZ n S P (sOut x j))) [0, 1, 2, 3, 4, 5, 6, 7, 8, 9, 10, 11, 12, 13, 14, 15, 16, 17, 18, 19, 20] (by decide) rfl
          refine kx_v (va_runV (As := [.int (x.1 0 j 0), .int (nI j)]) (rest := []) ⟨hx, hb, hml, hown, hts⟩ ((m_take l D cI cZ qm n S P (sOut x j) (x.1 0 j 0) j a t b (hn1) (hn5) (hS1) (hS4) (hP5) (hP64) (by omega) (ha) (ht) (hbn) (o2.trans hrc) (o3.trans hsl) (o1.trans hsd) (Inv_out hIn) (by rw [o5]; exact hv0) (fun q1 q2 q3 q4 => by rw [hkk] at q1 q2 q3 q4 ⊢; rcases (show k9 = 1 ∨ k9 = 2 ∨ k9 = 3 ∨ k9 = 4 ∨ k9 = 5 by omega) with rfl | rfl | rfl | rfl | rfl <;> first | rfl | contradiction) (show cntx P (put x 0 j 0 (nI 0)) < P by omega) (fun q1 q2 q3 => by rw [o4] at q2; have h7 := hroom (hall.mpr (Or.inl ⟨q1, q2, q3⟩)); show cntx P (put x 0 j 0 (nI 0)) + n ≤ P; omega) (fun q1 q2 => by rw [o4] at q2; have h7 := hroom (hall.mpr (Or.inr ⟨q1, q2⟩)); show cntx P (put x 0 j 0 (nI 0)) + n ≤ P; omega)) H.size) (cwV 2 hts (gV wd533 wd535 sl_Model_take wd7 wd536) rfl rfl rfl (by decide +kernel) ⟨Nat.le_of_ble_eq_true rfl, Nat.le_of_ble_eq_true rfl⟩) ⟨fb_PW, va_recv (q0 := 0) (ci := 5) hK hPc rfl rfl, pre_PW hK hPc hDc hZ⟩ rfl rfl hl.1 rfl (lv_room (Nat.le_of_ble_eq_true rfl)) dModel_deliver_86 ⟨Nat.zero_le _, Nat.zero_le _⟩) hP hD hS hA [0, 1, 2, 3, 4, 5, 6, 7, 8, 9, 10, 11, 12, 13, 14, 15, 16, 17, 18, 19, 20] [] rfl rfl (by decide) (by decide) (fun w1 H locs hw hP hD hS => ?_)
          obtain rfl := hw
          have hP : va_P D vwCl (wM qm cI cZ n S P (sTake n P (sOut x j) (x.1 0 j 0) b a t ((sOut x j).1 0 j 4) ((sOut x j).1 0 j 5) ((sOut x j).1 0 j 6))) H := hP
          have hD : va_D A (wM qm cI cZ n S P (sTake n P (sOut x j) (x.1 0 j 0) b a t ((sOut x j).1 0 j 4) ((sOut x j).1 0 j 5) ((sOut x j).1 0 j 6))) := hD
          refine lv_iload_n hx hb dModel_deliver_89 rfl (lv_at hl 1 rfl) ?_
          exact W.iret (v := x.1 0 j 0) hx hb hr (fun t9 ht9 hW9 => ⟨⟨x.1 0 j 0, (wM qm cI cZ n S P (sTake n P (sOut x j) (x.1 0 j 0) b a t ((sOut x j).1 0 j 4) ((sOut x j).1 0 j 5) ((sOut x j).1 0 j 6))), rfl, fin3 (by unfold sDel; rw [if_pos hisM, ix_nI hj (by omega), if_neg hNB, sHo_u iB iA iT c30, o4, o5, o6]), by rw [ht9]; exact hP, va_K.moved hW9.alike hK, hD⟩, hS.F ht9⟩) hS.2.2 dModel_deliver_90
        · have hlt : P - cntx P x + 1 < n := Nat.lt_of_not_le (fun q => c44 (nI_le q (by omega)))
          refine lv_bipush (v := (-4)) hx hb dModel_deliver_47 (by decide) ?_
          exact W.iret (v := (-4)) hx hb hr (fun t9 ht9 hW9 => ⟨⟨(-4), (wM qm cI cZ n S P x), rfl, fin3 (by unfold sDel; rw [if_pos hisM, ix_nI hj (by omega), if_pos ⟨by rw [iA]; exact c30, hlt, h35⟩]), by rw [ht9]; exact hP, va_K.moved hW9.alike hK, hD⟩, hS.F ht9⟩) hS.2.2 dModel_deliver_49
      · have hP : va_P D vwCl (wM qm cI cZ n S P x) H := hP
        have hD : va_D A (wM qm cI cZ n S P x) := hD
        have hNB : ¬ sBlk n P x j := fun h => h35.1 h.2.2
        refine lv_aload_n hx hb dModel_deliver_38 rfl (lv_at hl 2 rfl) ?_
        have hPc := hP.sub (ws' := (wM qm cI cZ n S P x)) [0, 1, 2, 3, 4, 5, 6, 7, 8, 9, 10, 11, 12, 13, 14, 15, 16, 17, 18, 19, 20] rfl
        have hDc := hD.sub (ws' := (wM qm cI cZ n S P x)) [0, 1, 2, 3, 4, 5, 6, 7, 8, 9, 10, 11, 12, 13, 14, 15, 16, 17, 18, 19, 20] (by decide) rfl
        refine kx_i (va_runV (As := []) (rest := [.int (nI ks9)]) ⟨hx, hb, hml, hown, hts⟩ ((m_empty l D cI cZ qm n S P x (hn1) (hn5) (hS1) (hS4) (hP5) (hP64)) H.size) (cwV 0 hts (gV wd494 wd496 sl_Model_empty wd7 wd497) rfl rfl rfl (by decide +kernel) ⟨Nat.le_of_ble_eq_true rfl, Nat.le_of_ble_eq_true rfl⟩) ⟨fb_PW, va_recv (q0 := 0) (ci := 5) hK hPc rfl rfl, pre_PW hK hPc hDc hZ⟩ rfl rfl hl.1 rfl (lv_room (Nat.le_of_ble_eq_true rfl)) dModel_deliver_39 ⟨Nat.zero_le _, Nat.zero_le _⟩) hP hD hS hA [0, 1, 2, 3, 4, 5, 6, 7, 8, 9, 10, 11, 12, 13, 14, 15, 16, 17, 18, 19, 20] [] rfl rfl (by decide) (by decide) (fun r w1 H locs hw hP hD hS => ?_)
        obtain ⟨rfl, rfl⟩ := hw
        have hP : va_P D vwCl (wM qm cI cZ n S P x) H := hP
        have hD : va_D A (wM qm cI cZ n S P x) := hD
        refine lv_iconst (v := nI 1) hx hb dModel_deliver_42 (by decide) ?_
        refine lv_iadd hx hb dModel_deliver_43 ?_
        refine lv_topi (nm_r (nI_add _ _) ?_)
        refine lv_icmp_le (tgt := 50) hx hb dModel_deliver_44 (by decide) (fun _ => ?_) (fun h9 => absurd (nI_le (by omega) (by omega)) h9)
        refine lv_aload_n hx hb dModel_deliver_50 rfl (lv_at hl 2 rfl) ?_
        refine va_get (D := D) (ci := 5) (v := .ref (qm 2)) (C := RModel) (T := TModel) (N := 25) hx hb hts (fun w h => mc (uModel_in w h)) hown hK hP 0 rfl rfl 4 (by decide) (hts _ (mc wd409)) (fun _ h9 => h9) rfl dModel_deliver_51 ?_
        refine lv_iload_n hx hb dModel_deliver_54 rfl (lv_at hl 3 rfl) ?_
        refine lv_iconst (v := nI 0) hx hb dModel_deliver_55 (by decide) ?_
        refine ka_st (f' := col (up2 (x.1 0) j 0 (nI 0)) 0) hx hb hK hP hD hS 2 0 rfl rfl (by omega) (by omega) col_up dModel_deliver_56 (fun H locs hP hD hS => ?_)
        have hP : va_P D vwCl (wR qm cI cZ n S P (col (x.1 13) 0) (col (up2 (x.1 0) j 0 (nI 0)) 0) (col (x.1 0) 1) (col (x.1 0) 2) (col (x.1 0) 3) (col (x.1 0) 4) (col (x.1 0) 5) (col (x.1 0) 6) (sq 4 (x.1 2)) (sq 4 (x.1 1)) (sq 4 (x.1 6)) (sq 4 (x.1 3)) (sq 4 (x.1 4)) (sq 4 (x.1 7)) (sq 4 (x.1 8)) (sq 4 (x.1 9)) (sq 4 (x.1 10)) (hrm (x.2 0)) (hrm (x.2 1)) (sq 4 (x.1 11)) (x.1 12 0 0) (x.1 12 0 1)) H := hP
        have hD : va_D A (wR qm cI cZ n S P (col (x.1 13) 0) (col (up2 (x.1 0) j 0 (nI 0)) 0) (col (x.1 0) 1) (col (x.1 0) 2) (col (x.1 0) 3) (col (x.1 0) 4) (col (x.1 0) 5) (col (x.1 0) 6) (sq 4 (x.1 2)) (sq 4 (x.1 1)) (sq 4 (x.1 6)) (sq 4 (x.1 3)) (sq 4 (x.1 4)) (sq 4 (x.1 7)) (sq 4 (x.1 8)) (sq 4 (x.1 9)) (sq 4 (x.1 10)) (hrm (x.2 0)) (hrm (x.2 1)) (sq 4 (x.1 11)) (x.1 12 0 0) (x.1 12 0 1)) := hD
        refine lv_aload_n hx hb dModel_deliver_57 rfl (lv_at hl 2 rfl) ?_
        refine lv_dup hx hb dModel_deliver_58 rfl ?_
        refine va_get (D := D) (ci := 5) (v := .int (x.1 12 0 0)) (C := RModel) (T := TModel) (N := 25) hx hb hts (fun w h => mc (uModel_in w h)) hown hK hP 0 rfl rfl 23 (by decide) (hts _ (mc wd428)) (fun _ h9 => h9) rfl dModel_deliver_59 ?_
        refine lv_iconst (v := nI 1) hx hb dModel_deliver_62 (by decide) ?_
        refine lv_iadd hx hb dModel_deliver_63 ?_
        refine va_put (D := D) (ci := 5) (v := .int ((x.1 12 0 0) + (nI 1))) (ty := .int) (C := RModel) (T := TModel) (N := 25) hx hb hts (fun w h => mc (uModel_in w h)) tyModel tyModel_ok nmModel hown hK hP hD hS 0 rfl rfl 23 (by decide) (hts _ (mc wd428)) (fun _ h9 => h9) rfl (by decide +kernel) rfl rfl (Nat.le_of_ble_eq_true rfl) dModel_deliver_64 (fun H locs hP hD hS => ?_)
        have hP : va_P D vwCl (wR qm cI cZ n S P (col (x.1 13) 0) (col (up2 (x.1 0) j 0 (nI 0)) 0) (col (x.1 0) 1) (col (x.1 0) 2) (col (x.1 0) 3) (col (x.1 0) 4) (col (x.1 0) 5) (col (x.1 0) 6) (sq 4 (x.1 2)) (sq 4 (x.1 1)) (sq 4 (x.1 6)) (sq 4 (x.1 3)) (sq 4 (x.1 4)) (sq 4 (x.1 7)) (sq 4 (x.1 8)) (sq 4 (x.1 9)) (sq 4 (x.1 10)) (hrm (x.2 0)) (hrm (x.2 1)) (sq 4 (x.1 11)) ((x.1 12 0 0) + (nI 1)) (x.1 12 0 1)) H := hP
        have hD : va_D A (wR qm cI cZ n S P (col (x.1 13) 0) (col (up2 (x.1 0) j 0 (nI 0)) 0) (col (x.1 0) 1) (col (x.1 0) 2) (col (x.1 0) 3) (col (x.1 0) 4) (col (x.1 0) 5) (col (x.1 0) 6) (sq 4 (x.1 2)) (sq 4 (x.1 1)) (sq 4 (x.1 6)) (sq 4 (x.1 3)) (sq 4 (x.1 4)) (sq 4 (x.1 7)) (sq 4 (x.1 8)) (sq 4 (x.1 9)) (sq 4 (x.1 10)) (hrm (x.2 0)) (hrm (x.2 1)) (sq 4 (x.1 11)) ((x.1 12 0 0) + (nI 1)) (x.1 12 0 1)) := hD
        have hW4 : (wR qm cI cZ n S P (col (x.1 13) 0) (col (up2 (x.1 0) j 0 (nI 0)) 0) (col (x.1 0) 1) (col (x.1 0) 2) (col (x.1 0) 3) (col (x.1 0) 4) (col (x.1 0) 5) (col (x.1 0) 6) (sq 4 (x.1 2)) (sq 4 (x.1 1)) (sq 4 (x.1 6)) (sq 4 (x.1 3)) (sq 4 (x.1 4)) (sq 4 (x.1 7)) (sq 4 (x.1 8)) (sq 4 (x.1 9)) (sq 4 (x.1 10)) (hrm (x.2 0)) (hrm (x.2 1)) (sq 4 (x.1 11)) ((x.1 12 0 0) + (nI 1)) (x.1 12 0 1)) = (wM qm cI cZ n S P (sOut x j)) := wM_k0.trans (by rw [put12_id]; rfl)
        rw [hW4] at hP hD
        refine lv_iload_n hx hb dModel_deliver_67 rfl (lv_at hl 0 rfl) ?_
        refine lv_if_eq (tgt := 83) hx hb dModel_deliver_68 (by decide) (fun _ => ?_) (fun h9 => absurd c30 h9)
        refine lv_aload_n hx hb dModel_deliver_83 rfl (lv_at hl 2 rfl) ?_
        refine lv_iload_n hx hb dModel_deliver_84 rfl (lv_at hl 1 rfl) ?_
        refine lv_iload_n hx hb dModel_deliver_85 rfl (lv_at hl 3 rfl) ?_
        have hroom : sAll n x j → n ≤ P - cntx P x + 1 := fun h1 => Nat.le_of_not_lt (fun q => hNB ⟨by rw [iA]; exact c30, q, h1⟩)
        have hPc := hP.sub (ws' := (wM qm cI cZ n S P (sOut x j))) [0, 1, 2, 3, 4, 5, 6, 7, 8, 9, 10, 11, 12, 13, 14, 15, 16, 17, 18, 19, 20] rfl
        have hDc := hD.sub (ws' := (wM qm cI cZ n S P (sOut x j))) [0, 1, 2, 3, 4, 5, 6, 7, 8, 9, 10, 11, 12, 13, 14, 15, 16, 17, 18, 19, 20] (by decide) rfl
        refine kx_v (va_runV (As := [.int (x.1 0 j 0), .int (nI j)]) (rest := []) ⟨hx, hb, hml, hown, hts⟩ ((m_take l D cI cZ qm n S P (sOut x j) (x.1 0 j 0) j a t b (hn1) (hn5) (hS1) (hS4) (hP5) (hP64) (by omega) (ha) (ht) (hbn) (o2.trans hrc) (o3.trans hsl) (o1.trans hsd) (Inv_out hIn) (by rw [o5]; exact hv0) (fun q1 q2 q3 q4 => by rw [hkk] at q1 q2 q3 q4 ⊢; rcases (show k9 = 1 ∨ k9 = 2 ∨ k9 = 3 ∨ k9 = 4 ∨ k9 = 5 by omega) with rfl | rfl | rfl | rfl | rfl <;> first | rfl | contradiction) (show cntx P (put x 0 j 0 (nI 0)) < P by omega) (fun q1 q2 q3 => by rw [o4] at q2; have h7 := hroom (hall.mpr (Or.inl ⟨q1, q2, q3⟩)); show cntx P (put x 0 j 0 (nI 0)) + n ≤ P; omega) (fun q1 q2 => by rw [o4] at q2; have h7 := hroom (hall.mpr (Or.inr ⟨q1, q2⟩)); show cntx P (put x 0 j 0 (nI 0)) + n ≤ P; omega)) H.size) (cwV 2 hts (gV wd533 wd535 sl_Model_take wd7 wd536) rfl rfl rfl (by decide +kernel) ⟨Nat.le_of_ble_eq_true rfl, Nat.le_of_ble_eq_true rfl⟩) ⟨fb_PW, va_recv (q0 := 0) (ci := 5) hK hPc rfl rfl, pre_PW hK hPc hDc hZ⟩ rfl rfl hl.1 rfl (lv_room (Nat.le_of_ble_eq_true rfl)) dModel_deliver_86 ⟨Nat.zero_le _, Nat.zero_le _⟩) hP hD hS hA [0, 1, 2, 3, 4, 5, 6, 7, 8, 9, 10, 11, 12, 13, 14, 15, 16, 17, 18, 19, 20] [] rfl rfl (by decide) (by decide) (fun w1 H locs hw hP hD hS => ?_)
        obtain rfl := hw
        have hP : va_P D vwCl (wM qm cI cZ n S P (sTake n P (sOut x j) (x.1 0 j 0) b a t ((sOut x j).1 0 j 4) ((sOut x j).1 0 j 5) ((sOut x j).1 0 j 6))) H := hP
        have hD : va_D A (wM qm cI cZ n S P (sTake n P (sOut x j) (x.1 0 j 0) b a t ((sOut x j).1 0 j 4) ((sOut x j).1 0 j 5) ((sOut x j).1 0 j 6))) := hD
        refine lv_iload_n hx hb dModel_deliver_89 rfl (lv_at hl 1 rfl) ?_
        exact W.iret (v := x.1 0 j 0) hx hb hr (fun t9 ht9 hW9 => ⟨⟨x.1 0 j 0, (wM qm cI cZ n S P (sTake n P (sOut x j) (x.1 0 j 0) b a t ((sOut x j).1 0 j 4) ((sOut x j).1 0 j 5) ((sOut x j).1 0 j 6))), rfl, fin3 (by unfold sDel; rw [if_pos hisM, ix_nI hj (by omega), if_neg hNB, sHo_u iB iA iT c30, o4, o5, o6]), by rw [ht9]; exact hP, va_K.moved hW9.alike hK, hD⟩, hS.F ht9⟩) hS.2.2 dModel_deliver_90
  · have hP : va_P D vwCl (wM qm cI cZ n S P x) H := hP
    have hD : va_D A (wM qm cI cZ n S P x) := hD
    refine lv_if_ne (tgt := 10) hx hb dModel_deliver_5 (by decide) (fun h9 => absurd (by decide) h9) (fun _ => ?_)
    refine lv_iconst (v := (-1)) hx hb dModel_deliver_8 (by decide) ?_
    exact W.iret (v := (-1)) hx hb hr (fun t9 ht9 hW9 => ⟨⟨(-1), (wM qm cI cZ n S P x), rfl, fin3 (if_neg h2), by rw [ht9]; exact hP, va_K.moved hW9.alike hK, hD⟩, hS.F ht9⟩) hS.2.2 dModel_deliver_9
