set_option maxRecDepth 100000 in
set_option maxHeartbeats 2000000 in
theorem lawk_1 {p : Program} {e : Env} {s : State} {m : MethodId} {below : List Frame} {meth : Method} {c : Code} (l : Launch) {b L : Nat} {xs : Nat → Int32} (hL : L ≤ 2563) (hx : p.tables.exec = Jvm.exec) (hb : c.code = code) (hml : c.maxLocals = 4) (hown : s.vm.findClass "DecreePoolLaw" = some m.cls) (hts : ∀ w ∈ wsLaw0, w.before #[Value.ref b] s = true) (hX : va_X b L xs s s.heap) (hbl : b < s.heap.size) (D : va_G) (cI cZ : ClassId) (hK : va_K D vwCl [(cI, .int), (cZ, .boolean)] s) (hZ : NZ s) (q qm : Nat → Nat) (n S P : Nat) (hn1 : 1 ≤ n) (hn5 : n ≤ 5) (hS1 : 1 ≤ S) (hS4 : S ≤ 4) (hP5 : 5 ≤ P) (hP64 : P ≤ 64) (A : Nat → Prop) (hA : ∀ z : Nat, s.heap.size ≤ z → A z) (hbA : ¬ A b) {Q : State → Prop} (i : Nat) (x : St) (ls : Array Slot) (H : Heap) (locs : List Loc) (hi5 : i + 5 ≤ L) (hIn : Inv n S x) (hl : lv_has ls 4 [(3, .int (nI i)), (2, .ref (qm 0)), (1, .ref (q 0)), (0, .ref b)]) (hP : va_P D vwCl (wX q cI n S P x ++ wM qm cI cZ n S P x) H) (hD : va_D A (wX q cI n S P x ++ wM qm cI cZ n S P x)) (hS : va_S A s.heap H locs)
    (kk : ∀ (y : St) (H : Heap) (locs : List Loc), Inv n S y → va_P D vwCl (wX q cI n S P y ++ wM qm cI cZ n S P y) H → va_D A (wX q cI n S P y ++ wM qm cI cZ n S P y) → va_S A s.heap H locs → W p l e room_1 s m #[Value.ref b] below meth c H locs 37 1632 Q (F0 m 656 ls [])) : W p l e room_1 s m #[Value.ref b] below meth c H locs 37 1632 Q (F0 m 197 ls []) := by
  refine lv_aload_n hx hb dLaw_law_197 rfl (lv_at hl 2 rfl) ?_
  refine lv_aload_n hx hb dLaw_law_198 rfl (lv_at hl 3 rfl) ?_
  refine lv_iload_n hx hb dLaw_law_199 rfl (lv_at hl 0 rfl) ?_
  refine lv_iconst (v := nI 1) hx hb dLaw_law_200 (by decide) ?_
  refine lv_iadd hx hb dLaw_law_201 ?_
  refine lv_topi (nm_r (nI_add _ _) ?_)
  refine va_sld hx hb hX hbl hbA hS (i := nI (i + 1)) (vp_in_nI (show i + 1 < L by omega) (by omega)) dLaw_law_202 ?_
  refine lv_topi (nm_r (show xs (nI (i + 1)).toNatClampNeg = xs (i + 1) from congrArg xs (nI_clamp (by omega))) ?_)
  have hPc := (blk_P hP).1
  have hDc := (blk_D hD).1
  refine kx_iL (va_runV (As := [.int (xs (i + 1))]) (rest := []) ⟨hx, hb, hml, hown, hts⟩ ((c_deliver l D cI cZ q n S P x (xs (i + 1)) hn1 hn5 hS1 hS4 hP5 hP64 hIn.1 hIn.2.2.2.2) H.size) (cwV 1 hts (gV wd185 wd186 wd187 wd1 wd188) rfl rfl rfl (by decide +kernel) ⟨Nat.le_of_ble_eq_true rfl, Nat.le_of_ble_eq_true rfl⟩) ⟨fb_PW, va_recv (q0 := 0) (ci := 0) hK hPc rfl rfl, pre_PW hK hPc hDc hZ⟩ rfl rfl hl.1 rfl (lv_room (Nat.le_of_ble_eq_true rfl)) dLaw_law_203 ⟨Nat.le_of_ble_eq_true rfl, Nat.le_of_ble_eq_true rfl⟩) hP hD hS hA (fun r w1 H locs hw hP hD hS => ?_)
  obtain ⟨rfl, rfl⟩ := hw
  refine lv_aload_n hx hb dLaw_law_206 rfl (lv_at hl 1 rfl) ?_
  refine lv_aload_n hx hb dLaw_law_207 rfl (lv_at hl 3 rfl) ?_
  refine lv_iload_n hx hb dLaw_law_208 rfl (lv_at hl 0 rfl) ?_
  refine lv_iconst (v := nI 1) hx hb dLaw_law_209 (by decide) ?_
  refine lv_iadd hx hb dLaw_law_210 ?_
  refine lv_topi (nm_r (nI_add _ _) ?_)
  refine va_sld hx hb hX hbl hbA hS (i := nI (i + 1)) (vp_in_nI (show i + 1 < L by omega) (by omega)) dLaw_law_211 ?_
  refine lv_topi (nm_r (show xs (nI (i + 1)).toNatClampNeg = xs (i + 1) from congrArg xs (nI_clamp (by omega))) ?_)
  have hPc := (blk_P hP).2
  have hDc := (blk_D hD).2.1
  refine kx_iR (va_runV (As := [.int (xs (i + 1))]) (rest := [.int ((sDel n P x (xs (i + 1))).1)]) ⟨hx, hb, hml, hown, hts⟩ ((m_deliver l D cI cZ qm n S P x (xs (i + 1)) hn1 hn5 hS1 hS4 hP5 hP64 hIn) H.size) (cwV 1 hts (gV wd506 wd507 wd508 wd7 wd509) rfl rfl rfl (by decide +kernel) ⟨Nat.le_of_ble_eq_true rfl, Nat.le_of_ble_eq_true rfl⟩) ⟨fb_PW, va_recv (q0 := 0) (ci := 5) hK hPc rfl rfl, pre_PW hK hPc hDc hZ⟩ rfl rfl hl.1 rfl (lv_room (Nat.le_of_ble_eq_true rfl)) dLaw_law_212 ⟨Nat.le_of_ble_eq_true rfl, Nat.le_of_ble_eq_true rfl⟩) hP hD hS hA (fun r w1 H locs hw hP hD hS => ?_)
  obtain ⟨rfl, rfl⟩ := hw
  refine lv_icmp_eq (tgt := 656) hx hb dLaw_law_215 (by decide) (fun _ => ?_) (fun h9 => absurd rfl h9)
  exact kk ((sDel n P x (xs (i + 1))).2) H locs (Inv_del hn5 hS4 hIn) hP hD hS
set_option maxRecDepth 100000 in
set_option maxHeartbeats 2000000 in
theorem lawk_8 {p : Program} {e : Env} {s : State} {m : MethodId} {below : List Frame} {meth : Method} {c : Code} (l : Launch) {b L : Nat} {xs : Nat → Int32} (hL : L ≤ 2563) (hx : p.tables.exec = Jvm.exec) (hb : c.code = code) (hml : c.maxLocals = 4) (hown : s.vm.findClass "DecreePoolLaw" = some m.cls) (hts : ∀ w ∈ wsLaw0, w.before #[Value.ref b] s = true) (hX : va_X b L xs s s.heap) (hbl : b < s.heap.size) (D : va_G) (cI cZ : ClassId) (hK : va_K D vwCl [(cI, .int), (cZ, .boolean)] s) (hZ : NZ s) (q qm : Nat → Nat) (n S P : Nat) (hn1 : 1 ≤ n) (hn5 : n ≤ 5) (hS1 : 1 ≤ S) (hS4 : S ≤ 4) (hP5 : 5 ≤ P) (hP64 : P ≤ 64) (A : Nat → Prop) (hA : ∀ z : Nat, s.heap.size ≤ z → A z) (hbA : ¬ A b) {Q : State → Prop} (i : Nat) (x : St) (ls : Array Slot) (H : Heap) (locs : List Loc) (hi5 : i + 5 ≤ L) (hIn : Inv n S x) (hl : lv_has ls 4 [(3, .int (nI i)), (2, .ref (qm 0)), (1, .ref (q 0)), (0, .ref b)]) (hP : va_P D vwCl (wX q cI n S P x ++ wM qm cI cZ n S P x) H) (hD : va_D A (wX q cI n S P x ++ wM qm cI cZ n S P x)) (hS : va_S A s.heap H locs)
    (kk : ∀ (y : St) (H : Heap) (locs : List Loc), Inv n S y → va_P D vwCl (wX q cI n S P y ++ wM qm cI cZ n S P y) H → va_D A (wX q cI n S P y ++ wM qm cI cZ n S P y) → va_S A s.heap H locs → W p l e room_1 s m #[Value.ref b] below meth c H locs 37 1632 Q (F0 m 656 ls [])) : W p l e room_1 s m #[Value.ref b] below meth c H locs 37 1632 Q (F0 m 368 ls []) := by
  refine lv_aload_n hx hb dLaw_law_368 rfl (lv_at hl 2 rfl) ?_
  refine lv_aload_n hx hb dLaw_law_369 rfl (lv_at hl 3 rfl) ?_
  refine lv_iload_n hx hb dLaw_law_370 rfl (lv_at hl 0 rfl) ?_
  refine lv_iconst (v := nI 1) hx hb dLaw_law_371 (by decide) ?_
  refine lv_iadd hx hb dLaw_law_372 ?_
  refine lv_topi (nm_r (nI_add _ _) ?_)
  refine va_sld hx hb hX hbl hbA hS (i := nI (i + 1)) (vp_in_nI (show i + 1 < L by omega) (by omega)) dLaw_law_373 ?_
  refine lv_topi (nm_r (show xs (nI (i + 1)).toNatClampNeg = xs (i + 1) from congrArg xs (nI_clamp (by omega))) ?_)
  refine lv_aload_n hx hb dLaw_law_374 rfl (lv_at hl 3 rfl) ?_
  refine lv_iload_n hx hb dLaw_law_375 rfl (lv_at hl 0 rfl) ?_
  refine lv_iconst (v := nI 2) hx hb dLaw_law_376 (by decide) ?_
  refine lv_iadd hx hb dLaw_law_377 ?_
  refine lv_topi (nm_r (nI_add _ _) ?_)
  refine va_sld hx hb hX hbl hbA hS (i := nI (i + 2)) (vp_in_nI (show i + 2 < L by omega) (by omega)) dLaw_law_378 ?_
  refine lv_topi (nm_r (show xs (nI (i + 2)).toNatClampNeg = xs (i + 2) from congrArg xs (nI_clamp (by omega))) ?_)
  have hPc := (blk_P hP).1
  have hDc := (blk_D hD).1
  refine kx_iL (va_runV (As := [.int (xs (i + 1)), .int (xs (i + 2))]) (rest := []) ⟨hx, hb, hml, hown, hts⟩ ((c_learned l D cI cZ q n S P x (xs (i + 1)) (xs (i + 2)) hn1 hn5 hS1 hS4 hP5 hP64) H.size) (cwV 2 hts (gV wd329 wd330 wd331 wd1 wd332) rfl rfl rfl (by decide +kernel) ⟨Nat.le_of_ble_eq_true rfl, Nat.le_of_ble_eq_true rfl⟩) ⟨fb_PW, va_recv (q0 := 0) (ci := 0) hK hPc rfl rfl, pre_PW hK hPc hDc hZ⟩ rfl rfl hl.1 rfl (lv_room (Nat.le_of_ble_eq_true rfl)) dLaw_law_379 ⟨Nat.le_of_ble_eq_true rfl, Nat.le_of_ble_eq_true rfl⟩) hP hD hS hA (fun r w1 H locs hw hP hD hS => ?_)
  obtain ⟨rfl, rfl⟩ := hw
  refine lv_aload_n hx hb dLaw_law_382 rfl (lv_at hl 1 rfl) ?_
  refine lv_aload_n hx hb dLaw_law_383 rfl (lv_at hl 3 rfl) ?_
  refine lv_iload_n hx hb dLaw_law_384 rfl (lv_at hl 0 rfl) ?_
  refine lv_iconst (v := nI 1) hx hb dLaw_law_385 (by decide) ?_
  refine lv_iadd hx hb dLaw_law_386 ?_
  refine lv_topi (nm_r (nI_add _ _) ?_)
  refine va_sld hx hb hX hbl hbA hS (i := nI (i + 1)) (vp_in_nI (show i + 1 < L by omega) (by omega)) dLaw_law_387 ?_
  refine lv_topi (nm_r (show xs (nI (i + 1)).toNatClampNeg = xs (i + 1) from congrArg xs (nI_clamp (by omega))) ?_)
  refine lv_aload_n hx hb dLaw_law_388 rfl (lv_at hl 3 rfl) ?_
  refine lv_iload_n hx hb dLaw_law_389 rfl (lv_at hl 0 rfl) ?_
  refine lv_iconst (v := nI 2) hx hb dLaw_law_390 (by decide) ?_
  refine lv_iadd hx hb dLaw_law_391 ?_
  refine lv_topi (nm_r (nI_add _ _) ?_)
  refine va_sld hx hb hX hbl hbA hS (i := nI (i + 2)) (vp_in_nI (show i + 2 < L by omega) (by omega)) dLaw_law_392 ?_
  refine lv_topi (nm_r (show xs (nI (i + 2)).toNatClampNeg = xs (i + 2) from congrArg xs (nI_clamp (by omega))) ?_)
  have hPc := (blk_P hP).2
  have hDc := (blk_D hD).2.1
  refine kx_iR (va_runV (As := [.int (xs (i + 1)), .int (xs (i + 2))]) (rest := [.int (aLearned n S x (xs (i + 1)) (xs (i + 2)))]) ⟨hx, hb, hml, hown, hts⟩ ((m_learned l D cI cZ qm n S P x (xs (i + 1)) (xs (i + 2)) hn1 hn5 hS1 hS4 hP5 hP64) H.size) (cwV 2 hts (gV wd578 wd579 wd580 wd7 wd581) rfl rfl rfl (by decide +kernel) ⟨Nat.le_of_ble_eq_true rfl, Nat.le_of_ble_eq_true rfl⟩) ⟨fb_PW, va_recv (q0 := 0) (ci := 5) hK hPc rfl rfl, pre_PW hK hPc hDc hZ⟩ rfl rfl hl.1 rfl (lv_room (Nat.le_of_ble_eq_true rfl)) dLaw_law_393 ⟨Nat.le_of_ble_eq_true rfl, Nat.le_of_ble_eq_true rfl⟩) hP hD hS hA (fun r w1 H locs hw hP hD hS => ?_)
  obtain ⟨rfl, rfl⟩ := hw
  refine lv_icmp_eq (tgt := 656) hx hb dLaw_law_396 (by decide) (fun _ => ?_) (fun h9 => absurd rfl h9)
  exact kk x H locs (hIn) hP hD hS
