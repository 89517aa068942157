set_option maxRecDepth 100000 in
set_option maxHeartbeats 2000000 in
theorem lawk_0 {p : Program} {e : Env} {s : State} {m : MethodId} {below : List Frame} {meth : Method} {c : Code} (l : Launch) {b L : Nat} {xs : Nat → Int32} (hL : L ≤ 2563) (hx : p.tables.exec = Jvm.exec) (hb : c.code = code) (hml : c.maxLocals = 4) (hown : s.vm.findClass "DecreePoolLaw" = some m.cls) (hts : ∀ w ∈ wsLaw0, w.before #[Value.ref b] s = true) (hX : va_X b L xs s s.heap) (hbl : b < s.heap.size) (D : va_G) (cI cZ : ClassId) (hK : va_K D vwCl [(cI, .int), (cZ, .boolean)] s) (hZ : NZ s) (q qm : Nat → Nat) (n S P : Nat) (hn1 : 1 ≤ n) (hn5 : n ≤ 5) (hS1 : 1 ≤ S) (hS4 : S ≤ 4) (hP5 : 5 ≤ P) (hP64 : P ≤ 64) (A : Nat → Prop) (hA : ∀ z : Nat, s.heap.size ≤ z → A z) (hbA : ¬ A b) {Q : State → Prop} (i : Nat) (x : St) (ls : Array Slot) (H : Heap) (locs : List Loc) (hi5 : i + 5 ≤ L) (hIn : Inv n S x) (hl : lv_has ls 4 [(3, .int (nI i)), (2, .ref (qm 0)), (1, .ref (q 0)), (0, .ref b)]) (hP : va_P D vwCl (wX q cI n S P x ++ wM qm cI cZ n S P x) H) (hD : va_D A (wX q cI n S P x ++ wM qm cI cZ n S P x)) (hS : va_S A s.heap H locs)
    (kk : ∀ (y : St) (H : Heap) (locs : List Loc), Inv n S y → va_P D vwCl (wX q cI n S P y ++ wM qm cI cZ n S P y) H → va_D A (wX q cI n S P y ++ wM qm cI cZ n S P y) → va_S A s.heap H locs → W p l e room_1 s m #[Value.ref b] below meth c H locs 37 1632 Q (F0 m 656 ls [])) : W p l e room_1 s m #[Value.ref b] below meth c H locs 37 1632 Q (F0 m 144 ls []) := by
  refine lv_aload_n hx hb dLaw_law_144 rfl (lv_at hl 2 rfl) ?_
  refine lv_aload_n hx hb dLaw_law_145 rfl (lv_at hl 3 rfl) ?_
  refine lv_iload_n hx hb dLaw_law_146 rfl (lv_at hl 0 rfl) ?_
  refine lv_iconst (v := nI 1) hx hb dLaw_law_147 (by decide) ?_
  refine lv_iadd hx hb dLaw_law_148 ?_
  refine lv_topi (nm_r (nI_add _ _) ?_)
  refine va_sld hx hb hX hbl hbA hS (i := nI (i + 1)) (vp_in_nI (show i + 1 < L by omega) (by omega)) dLaw_law_149 ?_
  refine lv_topi (nm_r (show xs (nI (i + 1)).toNatClampNeg = xs (i + 1) from congrArg xs (nI_clamp (by omega))) ?_)
  refine lv_aload_n hx hb dLaw_law_150 rfl (lv_at hl 3 rfl) ?_
  refine lv_iload_n hx hb dLaw_law_151 rfl (lv_at hl 0 rfl) ?_
  refine lv_iconst (v := nI 2) hx hb dLaw_law_152 (by decide) ?_
  refine lv_iadd hx hb dLaw_law_153 ?_
  refine lv_topi (nm_r (nI_add _ _) ?_)
  refine va_sld hx hb hX hbl hbA hS (i := nI (i + 2)) (vp_in_nI (show i + 2 < L by omega) (by omega)) dLaw_law_154 ?_
  refine lv_topi (nm_r (show xs (nI (i + 2)).toNatClampNeg = xs (i + 2) from congrArg xs (nI_clamp (by omega))) ?_)
  refine lv_aload_n hx hb dLaw_law_155 rfl (lv_at hl 3 rfl) ?_
  refine lv_iload_n hx hb dLaw_law_156 rfl (lv_at hl 0 rfl) ?_
  refine lv_iconst (v := nI 3) hx hb dLaw_law_157 (by decide) ?_
  refine lv_iadd hx hb dLaw_law_158 ?_
  refine lv_topi (nm_r (nI_add _ _) ?_)
  refine va_sld hx hb hX hbl hbA hS (i := nI (i + 3)) (vp_in_nI (show i + 3 < L by omega) (by omega)) dLaw_law_159 ?_
  refine lv_topi (nm_r (show xs (nI (i + 3)).toNatClampNeg = xs (i + 3) from congrArg xs (nI_clamp (by omega))) ?_)
  refine lv_aload_n hx hb dLaw_law_160 rfl (lv_at hl 3 rfl) ?_
  refine lv_iload_n hx hb dLaw_law_161 rfl (lv_at hl 0 rfl) ?_
  refine lv_iconst (v := nI 4) hx hb dLaw_law_162 (by decide) ?_
  refine lv_iadd hx hb dLaw_law_163 ?_
  refine lv_topi (nm_r (nI_add _ _) ?_)
  refine va_sld hx hb hX hbl hbA hS (i := nI (i + 4)) (vp_in_nI (show i + 4 < L by omega) (by omega)) dLaw_law_164 ?_
  refine lv_topi (nm_r (show xs (nI (i + 4)).toNatClampNeg = xs (i + 4) from congrArg xs (nI_clamp (by omega))) ?_)
  have hPc := (blk_P hP).1
  have hDc := (blk_D hD).1
  refine kx_iL (va_runV (As := [.int (xs (i + 1)), .int (xs (i + 2)), .int (xs (i + 3)), .int (xs (i + 4))]) (rest := []) ⟨hx, hb, hml, hown, hts⟩ ((c_prepare l D cI cZ q n S P x (xs (i + 1)) (xs (i + 2)) (xs (i + 3)) (xs (i + 4)) hn1 hn5 hS1 hS4 hP5 hP64) H.size) (cwV 4 hts (gV wd133 wd134 wd135 wd1 wd136) rfl rfl rfl (by decide +kernel) ⟨Nat.le_of_ble_eq_true rfl, Nat.le_of_ble_eq_true rfl⟩) ⟨fb_PW, va_recv (q0 := 0) (ci := 0) hK hPc rfl rfl, pre_PW hK hPc hDc hZ⟩ rfl rfl hl.1 rfl (lv_room (Nat.le_of_ble_eq_true rfl)) dLaw_law_165 ⟨Nat.le_of_ble_eq_true rfl, Nat.le_of_ble_eq_true rfl⟩) hP hD hS hA (fun r w1 H locs hw hP hD hS => ?_)
  obtain ⟨rfl, rfl⟩ := hw
  refine lv_aload_n hx hb dLaw_law_168 rfl (lv_at hl 1 rfl) ?_
  refine lv_aload_n hx hb dLaw_law_169 rfl (lv_at hl 3 rfl) ?_
  refine lv_iload_n hx hb dLaw_law_170 rfl (lv_at hl 0 rfl) ?_
  refine lv_iconst (v := nI 1) hx hb dLaw_law_171 (by decide) ?_
  refine lv_iadd hx hb dLaw_law_172 ?_
  refine lv_topi (nm_r (nI_add _ _) ?_)
  refine va_sld hx hb hX hbl hbA hS (i := nI (i + 1)) (vp_in_nI (show i + 1 < L by omega) (by omega)) dLaw_law_173 ?_
  refine lv_topi (nm_r (show xs (nI (i + 1)).toNatClampNeg = xs (i + 1) from congrArg xs (nI_clamp (by omega))) ?_)
  refine lv_aload_n hx hb dLaw_law_174 rfl (lv_at hl 3 rfl) ?_
  refine lv_iload_n hx hb dLaw_law_175 rfl (lv_at hl 0 rfl) ?_
  refine lv_iconst (v := nI 2) hx hb dLaw_law_176 (by decide) ?_
  refine lv_iadd hx hb dLaw_law_177 ?_
  refine lv_topi (nm_r (nI_add _ _) ?_)
  refine va_sld hx hb hX hbl hbA hS (i := nI (i + 2)) (vp_in_nI (show i + 2 < L by omega) (by omega)) dLaw_law_178 ?_
  refine lv_topi (nm_r (show xs (nI (i + 2)).toNatClampNeg = xs (i + 2) from congrArg xs (nI_clamp (by omega))) ?_)
  refine lv_aload_n hx hb dLaw_law_179 rfl (lv_at hl 3 rfl) ?_
  refine lv_iload_n hx hb dLaw_law_180 rfl (lv_at hl 0 rfl) ?_
  refine lv_iconst (v := nI 3) hx hb dLaw_law_181 (by decide) ?_
  refine lv_iadd hx hb dLaw_law_182 ?_
  refine lv_topi (nm_r (nI_add _ _) ?_)
  refine va_sld hx hb hX hbl hbA hS (i := nI (i + 3)) (vp_in_nI (show i + 3 < L by omega) (by omega)) dLaw_law_183 ?_
  refine lv_topi (nm_r (show xs (nI (i + 3)).toNatClampNeg = xs (i + 3) from congrArg xs (nI_clamp (by omega))) ?_)
  refine lv_aload_n hx hb dLaw_law_184 rfl (lv_at hl 3 rfl) ?_
  refine lv_iload_n hx hb dLaw_law_185 rfl (lv_at hl 0 rfl) ?_
  refine lv_iconst (v := nI 4) hx hb dLaw_law_186 (by decide) ?_
  refine lv_iadd hx hb dLaw_law_187 ?_
  refine lv_topi (nm_r (nI_add _ _) ?_)
  refine va_sld hx hb hX hbl hbA hS (i := nI (i + 4)) (vp_in_nI (show i + 4 < L by omega) (by omega)) dLaw_law_188 ?_
  refine lv_topi (nm_r (show xs (nI (i + 4)).toNatClampNeg = xs (i + 4) from congrArg xs (nI_clamp (by omega))) ?_)
  have hPc := (blk_P hP).2
  have hDc := (blk_D hD).2.1
  refine kx_iR (va_runV (As := [.int (xs (i + 1)), .int (xs (i + 2)), .int (xs (i + 3)), .int (xs (i + 4))]) (rest := [.int ((sPrep n S P x (xs (i + 1)) (xs (i + 2)) (xs (i + 3)) (xs (i + 4))).1)]) ⟨hx, hb, hml, hown, hts⟩ ((m_prepare l D cI cZ qm n S P x (xs (i + 1)) (xs (i + 2)) (xs (i + 3)) (xs (i + 4)) hn1 hn5 hS1 hS4 hP5 hP64 hIn) H.size) (cwV 4 hts (gV wd482 wd483 wd484 wd7 wd485) rfl rfl rfl (by decide +kernel) ⟨Nat.le_of_ble_eq_true rfl, Nat.le_of_ble_eq_true rfl⟩) ⟨fb_PW, va_recv (q0 := 0) (ci := 5) hK hPc rfl rfl, pre_PW hK hPc hDc hZ⟩ rfl rfl hl.1 rfl (lv_room (Nat.le_of_ble_eq_true rfl)) dLaw_law_189 ⟨Nat.le_of_ble_eq_true rfl, Nat.le_of_ble_eq_true rfl⟩) hP hD hS hA (fun r w1 H locs hw hP hD hS => ?_)
  obtain ⟨rfl, rfl⟩ := hw
  refine lv_icmp_eq (tgt := 656) hx hb dLaw_law_192 (by decide) (fun _ => ?_) (fun h9 => absurd rfl h9)
  exact kk ((sPrep n S P x (xs (i + 1)) (xs (i + 2)) (xs (i + 3)) (xs (i + 4))).2) H locs (Inv_prep hn5 hS4 hIn) hP hD hS
set_option maxRecDepth 100000 in
set_option maxHeartbeats 2000000 in
theorem lawk_1 {p : Program} {e : Env} {s : State} {m : MethodId} {below : List Frame} {meth : Method} {c : Code} (l : Launch) {b L : Nat} {xs : Nat → Int32} (hL : L ≤ 2563) (hx : p.tables.exec = Jvm.exec) (hb : c.code = code) (hml : c.maxLocals = 4) (hown : s.vm.findClass "DecreePoolLaw" = some m.cls) (hts : ∀ w ∈ wsLaw0, w.before #[Value.ref b] s = true) (hX : va_X b L xs s s.heap) (hbl : b < s.heap.size) (D : va_G) (cI cZ : ClassId) (hK : va_K D vwCl [(cI, .int), (cZ, .boolean)] s) (hZ : NZ s) (q qm : Nat → Nat) (n S P : Nat) (hn1 : 1 ≤ n) (hn5 : n ≤ 5) (hS1 : 1 ≤ S) (hS4 : S ≤ 4) (hP5 : 5 ≤ P) (hP64 : P ≤ 64) (A : Nat → Prop) (hA : ∀ z : Nat, s.heap.size ≤ z → A z) (hbA : ¬ A b) {Q : State → Prop} (i : Nat) (x : St) (ls : Array Slot) (H : Heap) (locs : List Loc) (hi5 : i + 5 ≤ L) (hIn : Inv n S x) (hl : lv_has ls 4 [(3, .int (nI i)), (2, .ref (qm 0)), (1, .ref (q 0)), (0, .ref b)]) (hP : va_P D vwCl (wX q cI n S P x ++ wM qm cI cZ n S P x) H) (hD : va_D A (wX q cI n S P x ++ wM qm cI cZ n S P x)) (hS : va_S A s.heap H locs)
    (kk : ∀ (y : St) (H : Heap) (locs : List Loc), Inv n S y → va_P D vwCl (wX q cI n S P y ++ wM qm cI cZ n S P y) H → va_D A (wX q cI n S P y ++ wM qm cI cZ n S P y) → va_S A s.heap H locs → W p l e room_1 s m #[Value.ref b] below meth c H locs 37 1632 Q (F0 m 656 ls [])) : W p l e room_1 s m #[Value.ref b] below meth c H locs 37 1632 Q (F0 m 197 ls []) := by
  refine lv_aload_n hx hb dLaw_law_197 rfl (lv_at hl 2 rfl) ?_
  refine lv_aload_n hx hb dLaw_law_198 rfl (lv_at hl 3 rfl) ?_
  refine lv_iload_n hx hb dLaw_law_199 rfl (lv_at hl 0 rfl) ?_
  refine lv_iconst (v := nI 1) hx hb dLaw_law_200 (by decide) ?_
  refine lv_iadd hx hb dLaw_law_201 ?_
  refine lv_topi (nm_r (nI_add _ _) ?_)
  refine va_sld hx hb hX hbl hbA hS (i := nI (i + 1)) (vp_in_nI (show i + 1 < L by omega) (by omega)) dLaw_law_202 ?_
  refine lv_topi (nm_r (show xs (nI (i + 1)).toNatClampNeg = xs (i + 1) from congrArg xs (nI_clamp (by omega))) ?_)
  have hPc := (blk_P hP).1
  have hDc := (blk_D hD).1
  refine kx_iL (va_runV (As := [.int (xs (i + 1))]) (rest := []) ⟨hx, hb, hml, hown, hts⟩ ((c_deliver l D cI cZ q n S P x (xs (i + 1)) hn1 hn5 hS1 hS4 hP5 hP64 hIn.1 hIn.2.2.2.2) H.size) (cwV 1 hts (gV wd185 wd186 wd187 wd1 wd188) rfl rfl rfl (by decide +kernel) ⟨Nat.le_of_ble_eq_true rfl, Nat.le_of_ble_eq_true rfl⟩) ⟨fb_PW, va_recv (q0 := 0) (ci := 0) hK hPc rfl rfl, pre_PW hK hPc hDc hZ⟩ rfl rfl hl.1 rfl (lv_room (Nat.le_of_ble_eq_true rfl)) dLaw_law_203 ⟨Nat.le_of_ble_eq_true rfl, Nat.le_of_ble_eq_true rfl⟩) hP hD hS hA (fun r w1 H locs hw hP hD hS => ?_)
  obtain ⟨rfl, rfl⟩ := hw
  refine lv_aload_n hx hb dLaw_law_206 rfl (lv_at hl 1 rfl) ?_
  refine lv_aload_n hx hb dLaw_law_207 rfl (lv_at hl 3 rfl) ?_
  refine lv_iload_n hx hb dLaw_law_208 rfl (lv_at hl 0 rfl) ?_
  refine lv_iconst (v := nI 1) hx hb dLaw_law_209 (by decide) ?_
  refine lv_iadd hx hb dLaw_law_210 ?_
  refine lv_topi (nm_r (nI_add _ _) ?_)
  refine va_sld hx hb hX hbl hbA hS (i := nI (i + 1)) (vp_in_nI (show i + 1 < L by omega) (by omega)) dLaw_law_211 ?_
  refine lv_topi (nm_r (show xs (nI (i + 1)).toNatClampNeg = xs (i + 1) from congrArg xs (nI_clamp (by omega))) ?_)
  have hPc := (blk_P hP).2
  have hDc := (blk_D hD).2.1
  refine kx_iR (va_runV (As := [.int (xs (i + 1))]) (rest := [.int ((sDel n P x (xs (i + 1))).1)]) ⟨hx, hb, hml, hown, hts⟩ ((m_deliver l D cI cZ qm n S P x (xs (i + 1)) hn1 hn5 hS1 hS4 hP5 hP64 hIn) H.size) (cwV 1 hts (gV wd506 wd507 wd508 wd7 wd509) rfl rfl rfl (by decide +kernel) ⟨Nat.le_of_ble_eq_true rfl, Nat.le_of_ble_eq_true rfl⟩) ⟨fb_PW, va_recv (q0 := 0) (ci := 5) hK hPc rfl rfl, pre_PW hK hPc hDc hZ⟩ rfl rfl hl.1 rfl (lv_room (Nat.le_of_ble_eq_true rfl)) dLaw_law_212 ⟨Nat.le_of_ble_eq_true rfl, Nat.le_of_ble_eq_true rfl⟩) hP hD hS hA (fun r w1 H locs hw hP hD hS => ?_)
  obtain ⟨rfl, rfl⟩ := hw
  refine lv_icmp_eq (tgt := 656) hx hb dLaw_law_215 (by decide) (fun _ => ?_) (fun h9 => absurd rfl h9)
  exact kk ((sDel n P x (xs (i + 1))).2) H locs (Inv_del hn5 hS4 hIn) hP hD hS
set_option maxRecDepth 100000 in
set_option maxHeartbeats 2000000 in
theorem lawk_2 {p : Program} {e : Env} {s : State} {m : MethodId} {below : List Frame} {meth : Method} {c : Code} (l : Launch) {b L : Nat} {xs : Nat → Int32} (hL : L ≤ 2563) (hx : p.tables.exec = Jvm.exec) (hb : c.code = code) (hml : c.maxLocals = 4) (hown : s.vm.findClass "DecreePoolLaw" = some m.cls) (hts : ∀ w ∈ wsLaw0, w.before #[Value.ref b] s = true) (hX : va_X b L xs s s.heap) (hbl : b < s.heap.size) (D : va_G) (cI cZ : ClassId) (hK : va_K D vwCl [(cI, .int), (cZ, .boolean)] s) (hZ : NZ s) (q qm : Nat → Nat) (n S P : Nat) (hn1 : 1 ≤ n) (hn5 : n ≤ 5) (hS1 : 1 ≤ S) (hS4 : S ≤ 4) (hP5 : 5 ≤ P) (hP64 : P ≤ 64) (A : Nat → Prop) (hA : ∀ z : Nat, s.heap.size ≤ z → A z) (hbA : ¬ A b) {Q : State → Prop} (i : Nat) (x : St) (ls : Array Slot) (H : Heap) (locs : List Loc) (hi5 : i + 5 ≤ L) (hIn : Inv n S x) (hl : lv_has ls 4 [(3, .int (nI i)), (2, .ref (qm 0)), (1, .ref (q 0)), (0, .ref b)]) (hP : va_P D vwCl (wX q cI n S P x ++ wM qm cI cZ n S P x) H) (hD : va_D A (wX q cI n S P x ++ wM qm cI cZ n S P x)) (hS : va_S A s.heap H locs)
    (kk : ∀ (y : St) (H : Heap) (locs : List Loc), Inv n S y → va_P D vwCl (wX q cI n S P y ++ wM qm cI cZ n S P y) H → va_D A (wX q cI n S P y ++ wM qm cI cZ n S P y) → va_S A s.heap H locs → W p l e room_1 s m #[Value.ref b] below meth c H locs 37 1632 Q (F0 m 656 ls [])) : W p l e room_1 s m #[Value.ref b] below meth c H locs 37 1632 Q (F0 m 220 ls []) := by
  refine lv_aload_n hx hb dLaw_law_220 rfl (lv_at hl 2 rfl) ?_
  refine lv_aload_n hx hb dLaw_law_221 rfl (lv_at hl 3 rfl) ?_
  refine lv_iload_n hx hb dLaw_law_222 rfl (lv_at hl 0 rfl) ?_
  refine lv_iconst (v := nI 1) hx hb dLaw_law_223 (by decide) ?_
  refine lv_iadd hx hb dLaw_law_224 ?_
  refine lv_topi (nm_r (nI_add _ _) ?_)
  refine va_sld hx hb hX hbl hbA hS (i := nI (i + 1)) (vp_in_nI (show i + 1 < L by omega) (by omega)) dLaw_law_225 ?_
  refine lv_topi (nm_r (show xs (nI (i + 1)).toNatClampNeg = xs (i + 1) from congrArg xs (nI_clamp (by omega))) ?_)
  have hPc := (blk_P hP).1
  have hDc := (blk_D hD).1
  refine kx_iL (va_runV (As := [.int (xs (i + 1))]) (rest := []) ⟨hx, hb, hml, hown, hts⟩ ((c_sweep l D cI cZ q n S P x (xs (i + 1)) hn1 hn5 hS1 hS4 hP5 hP64 hIn) H.size) (cwV 1 hts (gV wd279 wd280 wd281 wd1 wd282) rfl rfl rfl (by decide +kernel) ⟨Nat.le_of_ble_eq_true rfl, Nat.le_of_ble_eq_true rfl⟩) ⟨fb_PW, va_recv (q0 := 0) (ci := 0) hK hPc rfl rfl, pre_PW hK hPc hDc hZ⟩ rfl rfl hl.1 rfl (lv_room (Nat.le_of_ble_eq_true rfl)) dLaw_law_226 ⟨Nat.le_of_ble_eq_true rfl, Nat.le_of_ble_eq_true rfl⟩) hP hD hS hA (fun r w1 H locs hw hP hD hS => ?_)
  obtain ⟨rfl, rfl⟩ := hw
  refine lv_aload_n hx hb dLaw_law_229 rfl (lv_at hl 1 rfl) ?_
  refine lv_aload_n hx hb dLaw_law_230 rfl (lv_at hl 3 rfl) ?_
  refine lv_iload_n hx hb dLaw_law_231 rfl (lv_at hl 0 rfl) ?_
  refine lv_iconst (v := nI 1) hx hb dLaw_law_232 (by decide) ?_
  refine lv_iadd hx hb dLaw_law_233 ?_
  refine lv_topi (nm_r (nI_add _ _) ?_)
  refine va_sld hx hb hX hbl hbA hS (i := nI (i + 1)) (vp_in_nI (show i + 1 < L by omega) (by omega)) dLaw_law_234 ?_
  refine lv_topi (nm_r (show xs (nI (i + 1)).toNatClampNeg = xs (i + 1) from congrArg xs (nI_clamp (by omega))) ?_)
  have hPc := (blk_P hP).2
  have hDc := (blk_D hD).2.1
  refine kx_iR (va_runV (As := [.int (xs (i + 1))]) (rest := [.int ((sSweep n P x (xs (i + 1))).1)]) ⟨hx, hb, hml, hown, hts⟩ ((m_sweep l D cI cZ qm n S P x (xs (i + 1)) hn1 hn5 hS1 hS4 hP5 hP64 hIn) H.size) (cwV 1 hts (gV wd549 wd550 wd551 wd7 wd552) rfl rfl rfl (by decide +kernel) ⟨Nat.le_of_ble_eq_true rfl, Nat.le_of_ble_eq_true rfl⟩) ⟨fb_PW, va_recv (q0 := 0) (ci := 5) hK hPc rfl rfl, pre_PW hK hPc hDc hZ⟩ rfl rfl hl.1 rfl (lv_room (Nat.le_of_ble_eq_true rfl)) dLaw_law_235 ⟨Nat.le_of_ble_eq_true rfl, Nat.le_of_ble_eq_true rfl⟩) hP hD hS hA (fun r w1 H locs hw hP hD hS => ?_)
  obtain ⟨rfl, rfl⟩ := hw
  refine lv_icmp_eq (tgt := 656) hx hb dLaw_law_238 (by decide) (fun _ => ?_) (fun h9 => absurd rfl h9)
  exact kk ((sSweep n P x (xs (i + 1))).2) H locs (Inv_sweep hn5 hS4 hIn) hP hD hS
set_option maxRecDepth 100000 in
set_option maxHeartbeats 2000000 in
theorem lawk_3 {p : Program} {e : Env} {s : State} {m : MethodId} {below : List Frame} {meth : Method} {c : Code} (l : Launch) {b L : Nat} {xs : Nat → Int32} (hL : L ≤ 2563) (hx : p.tables.exec = Jvm.exec) (hb : c.code = code) (hml : c.maxLocals = 4) (hown : s.vm.findClass "DecreePoolLaw" = some m.cls) (hts : ∀ w ∈ wsLaw0, w.before #[Value.ref b] s = true) (hX : va_X b L xs s s.heap) (hbl : b < s.heap.size) (D : va_G) (cI cZ : ClassId) (hK : va_K D vwCl [(cI, .int), (cZ, .boolean)] s) (hZ : NZ s) (q qm : Nat → Nat) (n S P : Nat) (hn1 : 1 ≤ n) (hn5 : n ≤ 5) (hS1 : 1 ≤ S) (hS4 : S ≤ 4) (hP5 : 5 ≤ P) (hP64 : P ≤ 64) (A : Nat → Prop) (hA : ∀ z : Nat, s.heap.size ≤ z → A z) (hbA : ¬ A b) {Q : State → Prop} (i : Nat) (x : St) (ls : Array Slot) (H : Heap) (locs : List Loc) (hi5 : i + 5 ≤ L) (hIn : Inv n S x) (hl : lv_has ls 4 [(3, .int (nI i)), (2, .ref (qm 0)), (1, .ref (q 0)), (0, .ref b)]) (hP : va_P D vwCl (wX q cI n S P x ++ wM qm cI cZ n S P x) H) (hD : va_D A (wX q cI n S P x ++ wM qm cI cZ n S P x)) (hS : va_S A s.heap H locs)
    (kk : ∀ (y : St) (H : Heap) (locs : List Loc), Inv n S y → va_P D vwCl (wX q cI n S P y ++ wM qm cI cZ n S P y) H → va_D A (wX q cI n S P y ++ wM qm cI cZ n S P y) → va_S A s.heap H locs → W p l e room_1 s m #[Value.ref b] below meth c H locs 37 1632 Q (F0 m 656 ls [])) : W p l e room_1 s m #[Value.ref b] below meth c H locs 37 1632 Q (F0 m 243 ls []) := by
  refine lv_aload_n hx hb dLaw_law_243 rfl (lv_at hl 2 rfl) ?_
  refine lv_aload_n hx hb dLaw_law_244 rfl (lv_at hl 3 rfl) ?_
  refine lv_iload_n hx hb dLaw_law_245 rfl (lv_at hl 0 rfl) ?_
  refine lv_iconst (v := nI 1) hx hb dLaw_law_246 (by decide) ?_
  refine lv_iadd hx hb dLaw_law_247 ?_
  refine lv_topi (nm_r (nI_add _ _) ?_)
  refine va_sld hx hb hX hbl hbA hS (i := nI (i + 1)) (vp_in_nI (show i + 1 < L by omega) (by omega)) dLaw_law_248 ?_
  refine lv_topi (nm_r (show xs (nI (i + 1)).toNatClampNeg = xs (i + 1) from congrArg xs (nI_clamp (by omega))) ?_)
  have hPc := (blk_P hP).1
  have hDc := (blk_D hD).1
  refine kx_iL (va_runV (As := [.int (xs (i + 1))]) (rest := []) ⟨hx, hb, hml, hown, hts⟩ ((c_drop l D cI cZ q n S P x (xs (i + 1)) hn1 hn5 hS1 hS4 hP5 hP64) H.size) (cwV 1 hts (gV wd291 wd292 wd293 wd1 wd294) rfl rfl rfl (by decide +kernel) ⟨Nat.le_of_ble_eq_true rfl, Nat.le_of_ble_eq_true rfl⟩) ⟨fb_PW, va_recv (q0 := 0) (ci := 0) hK hPc rfl rfl, pre_PW hK hPc hDc hZ⟩ rfl rfl hl.1 rfl (lv_room (Nat.le_of_ble_eq_true rfl)) dLaw_law_249 ⟨Nat.le_of_ble_eq_true rfl, Nat.le_of_ble_eq_true rfl⟩) hP hD hS hA (fun r w1 H locs hw hP hD hS => ?_)
  obtain ⟨rfl, rfl⟩ := hw
  refine lv_aload_n hx hb dLaw_law_252 rfl (lv_at hl 1 rfl) ?_
  refine lv_aload_n hx hb dLaw_law_253 rfl (lv_at hl 3 rfl) ?_
  refine lv_iload_n hx hb dLaw_law_254 rfl (lv_at hl 0 rfl) ?_
  refine lv_iconst (v := nI 1) hx hb dLaw_law_255 (by decide) ?_
  refine lv_iadd hx hb dLaw_law_256 ?_
  refine lv_topi (nm_r (nI_add _ _) ?_)
  refine va_sld hx hb hX hbl hbA hS (i := nI (i + 1)) (vp_in_nI (show i + 1 < L by omega) (by omega)) dLaw_law_257 ?_
  refine lv_topi (nm_r (show xs (nI (i + 1)).toNatClampNeg = xs (i + 1) from congrArg xs (nI_clamp (by omega))) ?_)
  have hPc := (blk_P hP).2
  have hDc := (blk_D hD).2.1
  refine kx_iR (va_runV (As := [.int (xs (i + 1))]) (rest := [.int ((sDrop P x (xs (i + 1))).1)]) ⟨hx, hb, hml, hown, hts⟩ ((m_drop l D cI cZ qm n S P x (xs (i + 1)) hn1 hn5 hS1 hS4 hP5 hP64 hIn) H.size) (cwV 1 hts (gV wd554 wd555 wd556 wd7 wd557) rfl rfl rfl (by decide +kernel) ⟨Nat.le_of_ble_eq_true rfl, Nat.le_of_ble_eq_true rfl⟩) ⟨fb_PW, va_recv (q0 := 0) (ci := 5) hK hPc rfl rfl, pre_PW hK hPc hDc hZ⟩ rfl rfl hl.1 rfl (lv_room (Nat.le_of_ble_eq_true rfl)) dLaw_law_258 ⟨Nat.le_of_ble_eq_true rfl, Nat.le_of_ble_eq_true rfl⟩) hP hD hS hA (fun r w1 H locs hw hP hD hS => ?_)
  obtain ⟨rfl, rfl⟩ := hw
  refine lv_icmp_eq (tgt := 656) hx hb dLaw_law_261 (by decide) (fun _ => ?_) (fun h9 => absurd rfl h9)
  exact kk ((sDrop P x (xs (i + 1))).2) H locs (Inv_drop hIn) hP hD hS
set_option maxRecDepth 100000 in
set_option maxHeartbeats 2000000 in
theorem lawk_4 {p : Program} {e : Env} {s : State} {m : MethodId} {below : List Frame} {meth : Method} {c : Code} (l : Launch) {b L : Nat} {xs : Nat → Int32} (hL : L ≤ 2563) (hx : p.tables.exec = Jvm.exec) (hb : c.code = code) (hml : c.maxLocals = 4) (hown : s.vm.findClass "DecreePoolLaw" = some m.cls) (hts : ∀ w ∈ wsLaw0, w.before #[Value.ref b] s = true) (hX : va_X b L xs s s.heap) (hbl : b < s.heap.size) (D : va_G) (cI cZ : ClassId) (hK : va_K D vwCl [(cI, .int), (cZ, .boolean)] s) (hZ : NZ s) (q qm : Nat → Nat) (n S P : Nat) (hn1 : 1 ≤ n) (hn5 : n ≤ 5) (hS1 : 1 ≤ S) (hS4 : S ≤ 4) (hP5 : 5 ≤ P) (hP64 : P ≤ 64) (A : Nat → Prop) (hA : ∀ z : Nat, s.heap.size ≤ z → A z) (hbA : ¬ A b) {Q : State → Prop} (i : Nat) (x : St) (ls : Array Slot) (H : Heap) (locs : List Loc) (hi5 : i + 5 ≤ L) (hIn : Inv n S x) (hl : lv_has ls 4 [(3, .int (nI i)), (2, .ref (qm 0)), (1, .ref (q 0)), (0, .ref b)]) (hP : va_P D vwCl (wX q cI n S P x ++ wM qm cI cZ n S P x) H) (hD : va_D A (wX q cI n S P x ++ wM qm cI cZ n S P x)) (hS : va_S A s.heap H locs)
    (kk : ∀ (y : St) (H : Heap) (locs : List Loc), Inv n S y → va_P D vwCl (wX q cI n S P y ++ wM qm cI cZ n S P y) H → va_D A (wX q cI n S P y ++ wM qm cI cZ n S P y) → va_S A s.heap H locs → W p l e room_1 s m #[Value.ref b] below meth c H locs 37 1632 Q (F0 m 656 ls [])) : W p l e room_1 s m #[Value.ref b] below meth c H locs 37 1632 Q (F0 m 266 ls []) := by
  refine lv_aload_n hx hb dLaw_law_266 rfl (lv_at hl 2 rfl) ?_
  refine lv_aload_n hx hb dLaw_law_267 rfl (lv_at hl 3 rfl) ?_
  refine lv_iload_n hx hb dLaw_law_268 rfl (lv_at hl 0 rfl) ?_
  refine lv_iconst (v := nI 1) hx hb dLaw_law_269 (by decide) ?_
  refine lv_iadd hx hb dLaw_law_270 ?_
  refine lv_topi (nm_r (nI_add _ _) ?_)
  refine va_sld hx hb hX hbl hbA hS (i := nI (i + 1)) (vp_in_nI (show i + 1 < L by omega) (by omega)) dLaw_law_271 ?_
  refine lv_topi (nm_r (show xs (nI (i + 1)).toNatClampNeg = xs (i + 1) from congrArg xs (nI_clamp (by omega))) ?_)
  have hPc := (blk_P hP).1
  have hDc := (blk_D hD).1
  refine kx_iL (va_runV (As := [.int (xs (i + 1))]) (rest := []) ⟨hx, hb, hml, hown, hts⟩ ((c_duplicate l D cI cZ q n S P x (xs (i + 1)) hn1 hn5 hS1 hS4 hP5 hP64) H.size) (cwV 1 hts (gV wd295 wd296 wd297 wd1 wd298) rfl rfl rfl (by decide +kernel) ⟨Nat.le_of_ble_eq_true rfl, Nat.le_of_ble_eq_true rfl⟩) ⟨fb_PW, va_recv (q0 := 0) (ci := 0) hK hPc rfl rfl, pre_PW hK hPc hDc hZ⟩ rfl rfl hl.1 rfl (lv_room (Nat.le_of_ble_eq_true rfl)) dLaw_law_272 ⟨Nat.le_of_ble_eq_true rfl, Nat.le_of_ble_eq_true rfl⟩) hP hD hS hA (fun r w1 H locs hw hP hD hS => ?_)
  obtain ⟨rfl, rfl⟩ := hw
  refine lv_aload_n hx hb dLaw_law_275 rfl (lv_at hl 1 rfl) ?_
  refine lv_aload_n hx hb dLaw_law_276 rfl (lv_at hl 3 rfl) ?_
  refine lv_iload_n hx hb dLaw_law_277 rfl (lv_at hl 0 rfl) ?_
  refine lv_iconst (v := nI 1) hx hb dLaw_law_278 (by decide) ?_
  refine lv_iadd hx hb dLaw_law_279 ?_
  refine lv_topi (nm_r (nI_add _ _) ?_)
  refine va_sld hx hb hX hbl hbA hS (i := nI (i + 1)) (vp_in_nI (show i + 1 < L by omega) (by omega)) dLaw_law_280 ?_
  refine lv_topi (nm_r (show xs (nI (i + 1)).toNatClampNeg = xs (i + 1) from congrArg xs (nI_clamp (by omega))) ?_)
  have hPc := (blk_P hP).2
  have hDc := (blk_D hD).2.1
  refine kx_iR (va_runV (As := [.int (xs (i + 1))]) (rest := [.int ((sDup P x (xs (i + 1))).1)]) ⟨hx, hb, hml, hown, hts⟩ ((m_duplicate l D cI cZ qm n S P x (xs (i + 1)) hn1 hn5 hS1 hS4 hP5 hP64 hIn) H.size) (cwV 1 hts (gV wd558 wd559 wd560 wd7 wd561) rfl rfl rfl (by decide +kernel) ⟨Nat.le_of_ble_eq_true rfl, Nat.le_of_ble_eq_true rfl⟩) ⟨fb_PW, va_recv (q0 := 0) (ci := 5) hK hPc rfl rfl, pre_PW hK hPc hDc hZ⟩ rfl rfl hl.1 rfl (lv_room (Nat.le_of_ble_eq_true rfl)) dLaw_law_281 ⟨Nat.le_of_ble_eq_true rfl, Nat.le_of_ble_eq_true rfl⟩) hP hD hS hA (fun r w1 H locs hw hP hD hS => ?_)
  obtain ⟨rfl, rfl⟩ := hw
  refine lv_icmp_eq (tgt := 656) hx hb dLaw_law_284 (by decide) (fun _ => ?_) (fun h9 => absurd rfl h9)
  exact kk ((sDup P x (xs (i + 1))).2) H locs (Inv_dup hIn) hP hD hS
set_option maxRecDepth 100000 in
set_option maxHeartbeats 2000000 in
theorem lawk_5 {p : Program} {e : Env} {s : State} {m : MethodId} {below : List Frame} {meth : Method} {c : Code} (l : Launch) {b L : Nat} {xs : Nat → Int32} (hL : L ≤ 2563) (hx : p.tables.exec = Jvm.exec) (hb : c.code = code) (hml : c.maxLocals = 4) (hown : s.vm.findClass "DecreePoolLaw" = some m.cls) (hts : ∀ w ∈ wsLaw0, w.before #[Value.ref b] s = true) (hX : va_X b L xs s s.heap) (hbl : b < s.heap.size) (D : va_G) (cI cZ : ClassId) (hK : va_K D vwCl [(cI, .int), (cZ, .boolean)] s) (hZ : NZ s) (q qm : Nat → Nat) (n S P : Nat) (hn1 : 1 ≤ n) (hn5 : n ≤ 5) (hS1 : 1 ≤ S) (hS4 : S ≤ 4) (hP5 : 5 ≤ P) (hP64 : P ≤ 64) (A : Nat → Prop) (hA : ∀ z : Nat, s.heap.size ≤ z → A z) (hbA : ¬ A b) {Q : State → Prop} (i : Nat) (x : St) (ls : Array Slot) (H : Heap) (locs : List Loc) (hi5 : i + 5 ≤ L) (hIn : Inv n S x) (hl : lv_has ls 4 [(3, .int (nI i)), (2, .ref (qm 0)), (1, .ref (q 0)), (0, .ref b)]) (hP : va_P D vwCl (wX q cI n S P x ++ wM qm cI cZ n S P x) H) (hD : va_D A (wX q cI n S P x ++ wM qm cI cZ n S P x)) (hS : va_S A s.heap H locs)
    (kk : ∀ (y : St) (H : Heap) (locs : List Loc), Inv n S y → va_P D vwCl (wX q cI n S P y ++ wM qm cI cZ n S P y) H → va_D A (wX q cI n S P y ++ wM qm cI cZ n S P y) → va_S A s.heap H locs → W p l e room_1 s m #[Value.ref b] below meth c H locs 37 1632 Q (F0 m 656 ls [])) : W p l e room_1 s m #[Value.ref b] below meth c H locs 37 1632 Q (F0 m 289 ls []) := by
  refine lv_aload_n hx hb dLaw_law_289 rfl (lv_at hl 2 rfl) ?_
  refine lv_aload_n hx hb dLaw_law_290 rfl (lv_at hl 3 rfl) ?_
  refine lv_iload_n hx hb dLaw_law_291 rfl (lv_at hl 0 rfl) ?_
  refine lv_iconst (v := nI 1) hx hb dLaw_law_292 (by decide) ?_
  refine lv_iadd hx hb dLaw_law_293 ?_
  refine lv_topi (nm_r (nI_add _ _) ?_)
  refine va_sld hx hb hX hbl hbA hS (i := nI (i + 1)) (vp_in_nI (show i + 1 < L by omega) (by omega)) dLaw_law_294 ?_
  refine lv_topi (nm_r (show xs (nI (i + 1)).toNatClampNeg = xs (i + 1) from congrArg xs (nI_clamp (by omega))) ?_)
  have hPc := (blk_P hP).1
  have hDc := (blk_D hD).1
  refine kx_iL (va_runV (As := [.int (xs (i + 1))]) (rest := []) ⟨hx, hb, hml, hown, hts⟩ ((c_crash l D cI cZ q n S P x (xs (i + 1)) hn1 hn5 hS1 hS4 hP5 hP64) H.size) (cwV 1 hts (gV wd304 wd305 wd306 wd1 wd307) rfl rfl rfl (by decide +kernel) ⟨Nat.le_of_ble_eq_true rfl, Nat.le_of_ble_eq_true rfl⟩) ⟨fb_PW, va_recv (q0 := 0) (ci := 0) hK hPc rfl rfl, pre_PW hK hPc hDc hZ⟩ rfl rfl hl.1 rfl (lv_room (Nat.le_of_ble_eq_true rfl)) dLaw_law_295 ⟨Nat.le_of_ble_eq_true rfl, Nat.le_of_ble_eq_true rfl⟩) hP hD hS hA (fun r w1 H locs hw hP hD hS => ?_)
  obtain ⟨rfl, rfl⟩ := hw
  refine lv_aload_n hx hb dLaw_law_298 rfl (lv_at hl 1 rfl) ?_
  refine lv_aload_n hx hb dLaw_law_299 rfl (lv_at hl 3 rfl) ?_
  refine lv_iload_n hx hb dLaw_law_300 rfl (lv_at hl 0 rfl) ?_
  refine lv_iconst (v := nI 1) hx hb dLaw_law_301 (by decide) ?_
  refine lv_iadd hx hb dLaw_law_302 ?_
  refine lv_topi (nm_r (nI_add _ _) ?_)
  refine va_sld hx hb hX hbl hbA hS (i := nI (i + 1)) (vp_in_nI (show i + 1 < L by omega) (by omega)) dLaw_law_303 ?_
  refine lv_topi (nm_r (show xs (nI (i + 1)).toNatClampNeg = xs (i + 1) from congrArg xs (nI_clamp (by omega))) ?_)
  have hPc := (blk_P hP).2
  have hDc := (blk_D hD).2.1
  refine kx_iR (va_runV (As := [.int (xs (i + 1))]) (rest := [.int ((sCrash n x (xs (i + 1))).1)]) ⟨hx, hb, hml, hown, hts⟩ ((m_crash l D cI cZ qm n S P x (xs (i + 1)) hn1 hn5 hS1 hS4 hP5 hP64) H.size) (cwV 1 hts (gV wd562 wd563 wd564 wd7 wd565) rfl rfl rfl (by decide +kernel) ⟨Nat.le_of_ble_eq_true rfl, Nat.le_of_ble_eq_true rfl⟩) ⟨fb_PW, va_recv (q0 := 0) (ci := 5) hK hPc rfl rfl, pre_PW hK hPc hDc hZ⟩ rfl rfl hl.1 rfl (lv_room (Nat.le_of_ble_eq_true rfl)) dLaw_law_304 ⟨Nat.le_of_ble_eq_true rfl, Nat.le_of_ble_eq_true rfl⟩) hP hD hS hA (fun r w1 H locs hw hP hD hS => ?_)
  obtain ⟨rfl, rfl⟩ := hw
  refine lv_icmp_eq (tgt := 656) hx hb dLaw_law_307 (by decide) (fun _ => ?_) (fun h9 => absurd rfl h9)
  exact kk ((sCrash n x (xs (i + 1))).2) H locs (Inv_crash hIn) hP hD hS
set_option maxRecDepth 100000 in
set_option maxHeartbeats 2000000 in
theorem lawk_6 {p : Program} {e : Env} {s : State} {m : MethodId} {below : List Frame} {meth : Method} {c : Code} (l : Launch) {b L : Nat} {xs : Nat → Int32} (hL : L ≤ 2563) (hx : p.tables.exec = Jvm.exec) (hb : c.code = code) (hml : c.maxLocals = 4) (hown : s.vm.findClass "DecreePoolLaw" = some m.cls) (hts : ∀ w ∈ wsLaw0, w.before #[Value.ref b] s = true) (hX : va_X b L xs s s.heap) (hbl : b < s.heap.size) (D : va_G) (cI cZ : ClassId) (hK : va_K D vwCl [(cI, .int), (cZ, .boolean)] s) (hZ : NZ s) (q qm : Nat → Nat) (n S P : Nat) (hn1 : 1 ≤ n) (hn5 : n ≤ 5) (hS1 : 1 ≤ S) (hS4 : S ≤ 4) (hP5 : 5 ≤ P) (hP64 : P ≤ 64) (A : Nat → Prop) (hA : ∀ z : Nat, s.heap.size ≤ z → A z) (hbA : ¬ A b) {Q : State → Prop} (i : Nat) (x : St) (ls : Array Slot) (H : Heap) (locs : List Loc) (hi5 : i + 5 ≤ L) (hIn : Inv n S x) (hl : lv_has ls 4 [(3, .int (nI i)), (2, .ref (qm 0)), (1, .ref (q 0)), (0, .ref b)]) (hP : va_P D vwCl (wX q cI n S P x ++ wM qm cI cZ n S P x) H) (hD : va_D A (wX q cI n S P x ++ wM qm cI cZ n S P x)) (hS : va_S A s.heap H locs)
    (kk : ∀ (y : St) (H : Heap) (locs : List Loc), Inv n S y → va_P D vwCl (wX q cI n S P y ++ wM qm cI cZ n S P y) H → va_D A (wX q cI n S P y ++ wM qm cI cZ n S P y) → va_S A s.heap H locs → W p l e room_1 s m #[Value.ref b] below meth c H locs 37 1632 Q (F0 m 656 ls [])) : W p l e room_1 s m #[Value.ref b] below meth c H locs 37 1632 Q (F0 m 312 ls []) := by
  refine lv_aload_n hx hb dLaw_law_312 rfl (lv_at hl 2 rfl) ?_
  refine lv_aload_n hx hb dLaw_law_313 rfl (lv_at hl 3 rfl) ?_
  refine lv_iload_n hx hb dLaw_law_314 rfl (lv_at hl 0 rfl) ?_
  refine lv_iconst (v := nI 1) hx hb dLaw_law_315 (by decide) ?_
  refine lv_iadd hx hb dLaw_law_316 ?_
  refine lv_topi (nm_r (nI_add _ _) ?_)
  refine va_sld hx hb hX hbl hbA hS (i := nI (i + 1)) (vp_in_nI (show i + 1 < L by omega) (by omega)) dLaw_law_317 ?_
  refine lv_topi (nm_r (show xs (nI (i + 1)).toNatClampNeg = xs (i + 1) from congrArg xs (nI_clamp (by omega))) ?_)
  have hPc := (blk_P hP).1
  have hDc := (blk_D hD).1
  refine kx_iL (va_runV (As := [.int (xs (i + 1))]) (rest := []) ⟨hx, hb, hml, hown, hts⟩ ((c_restart l D cI cZ q n S P x (xs (i + 1)) hn1 hn5 hS1 hS4 hP5 hP64) H.size) (cwV 1 hts (gV wd309 wd310 wd311 wd1 wd312) rfl rfl rfl (by decide +kernel) ⟨Nat.le_of_ble_eq_true rfl, Nat.le_of_ble_eq_true rfl⟩) ⟨fb_PW, va_recv (q0 := 0) (ci := 0) hK hPc rfl rfl, pre_PW hK hPc hDc hZ⟩ rfl rfl hl.1 rfl (lv_room (Nat.le_of_ble_eq_true rfl)) dLaw_law_318 ⟨Nat.le_of_ble_eq_true rfl, Nat.le_of_ble_eq_true rfl⟩) hP hD hS hA (fun r w1 H locs hw hP hD hS => ?_)
  obtain ⟨rfl, rfl⟩ := hw
  refine lv_aload_n hx hb dLaw_law_321 rfl (lv_at hl 1 rfl) ?_
  refine lv_aload_n hx hb dLaw_law_322 rfl (lv_at hl 3 rfl) ?_
  refine lv_iload_n hx hb dLaw_law_323 rfl (lv_at hl 0 rfl) ?_
  refine lv_iconst (v := nI 1) hx hb dLaw_law_324 (by decide) ?_
  refine lv_iadd hx hb dLaw_law_325 ?_
  refine lv_topi (nm_r (nI_add _ _) ?_)
  refine va_sld hx hb hX hbl hbA hS (i := nI (i + 1)) (vp_in_nI (show i + 1 < L by omega) (by omega)) dLaw_law_326 ?_
  refine lv_topi (nm_r (show xs (nI (i + 1)).toNatClampNeg = xs (i + 1) from congrArg xs (nI_clamp (by omega))) ?_)
  have hPc := (blk_P hP).2
  have hDc := (blk_D hD).2.1
  refine kx_iR (va_runV (As := [.int (xs (i + 1))]) (rest := [.int ((sRest n x (xs (i + 1))).1)]) ⟨hx, hb, hml, hown, hts⟩ ((m_restart l D cI cZ qm n S P x (xs (i + 1)) hn1 hn5 hS1 hS4 hP5 hP64) H.size) (cwV 1 hts (gV wd570 wd571 wd572 wd7 wd573) rfl rfl rfl (by decide +kernel) ⟨Nat.le_of_ble_eq_true rfl, Nat.le_of_ble_eq_true rfl⟩) ⟨fb_PW, va_recv (q0 := 0) (ci := 5) hK hPc rfl rfl, pre_PW hK hPc hDc hZ⟩ rfl rfl hl.1 rfl (lv_room (Nat.le_of_ble_eq_true rfl)) dLaw_law_327 ⟨Nat.le_of_ble_eq_true rfl, Nat.le_of_ble_eq_true rfl⟩) hP hD hS hA (fun r w1 H locs hw hP hD hS => ?_)
  obtain ⟨rfl, rfl⟩ := hw
  refine lv_icmp_eq (tgt := 656) hx hb dLaw_law_330 (by decide) (fun _ => ?_) (fun h9 => absurd rfl h9)
  exact kk ((sRest n x (xs (i + 1))).2) H locs (Inv_rest hIn) hP hD hS
set_option maxRecDepth 100000 in
set_option maxHeartbeats 2000000 in
theorem lawk_7 {p : Program} {e : Env} {s : State} {m : MethodId} {below : List Frame} {meth : Method} {c : Code} (l : Launch) {b L : Nat} {xs : Nat → Int32} (hL : L ≤ 2563) (hx : p.tables.exec = Jvm.exec) (hb : c.code = code) (hml : c.maxLocals = 4) (hown : s.vm.findClass "DecreePoolLaw" = some m.cls) (hts : ∀ w ∈ wsLaw0, w.before #[Value.ref b] s = true) (hX : va_X b L xs s s.heap) (hbl : b < s.heap.size) (D : va_G) (cI cZ : ClassId) (hK : va_K D vwCl [(cI, .int), (cZ, .boolean)] s) (hZ : NZ s) (q qm : Nat → Nat) (n S P : Nat) (hn1 : 1 ≤ n) (hn5 : n ≤ 5) (hS1 : 1 ≤ S) (hS4 : S ≤ 4) (hP5 : 5 ≤ P) (hP64 : P ≤ 64) (A : Nat → Prop) (hA : ∀ z : Nat, s.heap.size ≤ z → A z) (hbA : ¬ A b) {Q : State → Prop} (i : Nat) (x : St) (ls : Array Slot) (H : Heap) (locs : List Loc) (hi5 : i + 5 ≤ L) (hIn : Inv n S x) (hl : lv_has ls 4 [(3, .int (nI i)), (2, .ref (qm 0)), (1, .ref (q 0)), (0, .ref b)]) (hP : va_P D vwCl (wX q cI n S P x ++ wM qm cI cZ n S P x) H) (hD : va_D A (wX q cI n S P x ++ wM qm cI cZ n S P x)) (hS : va_S A s.heap H locs)
    (kk : ∀ (y : St) (H : Heap) (locs : List Loc), Inv n S y → va_P D vwCl (wX q cI n S P y ++ wM qm cI cZ n S P y) H → va_D A (wX q cI n S P y ++ wM qm cI cZ n S P y) → va_S A s.heap H locs → W p l e room_1 s m #[Value.ref b] below meth c H locs 37 1632 Q (F0 m 656 ls [])) : W p l e room_1 s m #[Value.ref b] below meth c H locs 37 1632 Q (F0 m 335 ls []) := by
  refine lv_aload_n hx hb dLaw_law_335 rfl (lv_at hl 2 rfl) ?_
  refine lv_aload_n hx hb dLaw_law_336 rfl (lv_at hl 3 rfl) ?_
  refine lv_iload_n hx hb dLaw_law_337 rfl (lv_at hl 0 rfl) ?_
  refine lv_iconst (v := nI 1) hx hb dLaw_law_338 (by decide) ?_
  refine lv_iadd hx hb dLaw_law_339 ?_
  refine lv_topi (nm_r (nI_add _ _) ?_)
  refine va_sld hx hb hX hbl hbA hS (i := nI (i + 1)) (vp_in_nI (show i + 1 < L by omega) (by omega)) dLaw_law_340 ?_
  refine lv_topi (nm_r (show xs (nI (i + 1)).toNatClampNeg = xs (i + 1) from congrArg xs (nI_clamp (by omega))) ?_)
  refine lv_aload_n hx hb dLaw_law_341 rfl (lv_at hl 3 rfl) ?_
  refine lv_iload_n hx hb dLaw_law_342 rfl (lv_at hl 0 rfl) ?_
  refine lv_iconst (v := nI 2) hx hb dLaw_law_343 (by decide) ?_
  refine lv_iadd hx hb dLaw_law_344 ?_
  refine lv_topi (nm_r (nI_add _ _) ?_)
  refine va_sld hx hb hX hbl hbA hS (i := nI (i + 2)) (vp_in_nI (show i + 2 < L by omega) (by omega)) dLaw_law_345 ?_
  refine lv_topi (nm_r (show xs (nI (i + 2)).toNatClampNeg = xs (i + 2) from congrArg xs (nI_clamp (by omega))) ?_)
  have hPc := (blk_P hP).1
  have hDc := (blk_D hD).1
  refine kx_iL (va_runV (As := [.int (xs (i + 1)), .int (xs (i + 2))]) (rest := []) ⟨hx, hb, hml, hown, hts⟩ ((c_tell l D cI cZ q n S P x (xs (i + 1)) (xs (i + 2)) hn1 hn5 hS1 hS4 hP5 hP64) H.size) (cwV 2 hts (gV wd321 wd322 wd323 wd1 wd324) rfl rfl rfl (by decide +kernel) ⟨Nat.le_of_ble_eq_true rfl, Nat.le_of_ble_eq_true rfl⟩) ⟨fb_PW, va_recv (q0 := 0) (ci := 0) hK hPc rfl rfl, pre_PW hK hPc hDc hZ⟩ rfl rfl hl.1 rfl (lv_room (Nat.le_of_ble_eq_true rfl)) dLaw_law_346 ⟨Nat.le_of_ble_eq_true rfl, Nat.le_of_ble_eq_true rfl⟩) hP hD hS hA (fun r w1 H locs hw hP hD hS => ?_)
  obtain ⟨rfl, rfl⟩ := hw
  refine lv_aload_n hx hb dLaw_law_349 rfl (lv_at hl 1 rfl) ?_
  refine lv_aload_n hx hb dLaw_law_350 rfl (lv_at hl 3 rfl) ?_
  refine lv_iload_n hx hb dLaw_law_351 rfl (lv_at hl 0 rfl) ?_
  refine lv_iconst (v := nI 1) hx hb dLaw_law_352 (by decide) ?_
  refine lv_iadd hx hb dLaw_law_353 ?_
  refine lv_topi (nm_r (nI_add _ _) ?_)
  refine va_sld hx hb hX hbl hbA hS (i := nI (i + 1)) (vp_in_nI (show i + 1 < L by omega) (by omega)) dLaw_law_354 ?_
  refine lv_topi (nm_r (show xs (nI (i + 1)).toNatClampNeg = xs (i + 1) from congrArg xs (nI_clamp (by omega))) ?_)
  refine lv_aload_n hx hb dLaw_law_355 rfl (lv_at hl 3 rfl) ?_
  refine lv_iload_n hx hb dLaw_law_356 rfl (lv_at hl 0 rfl) ?_
  refine lv_iconst (v := nI 2) hx hb dLaw_law_357 (by decide) ?_
  refine lv_iadd hx hb dLaw_law_358 ?_
  refine lv_topi (nm_r (nI_add _ _) ?_)
  refine va_sld hx hb hX hbl hbA hS (i := nI (i + 2)) (vp_in_nI (show i + 2 < L by omega) (by omega)) dLaw_law_359 ?_
  refine lv_topi (nm_r (show xs (nI (i + 2)).toNatClampNeg = xs (i + 2) from congrArg xs (nI_clamp (by omega))) ?_)
  have hPc := (blk_P hP).2
  have hDc := (blk_D hD).2.1
  refine kx_iR (va_runV (As := [.int (xs (i + 1)), .int (xs (i + 2))]) (rest := [.int ((sTell n S P x (xs (i + 1)) (xs (i + 2))).1)]) ⟨hx, hb, hml, hown, hts⟩ ((m_tell l D cI cZ qm n S P x (xs (i + 1)) (xs (i + 2)) hn1 hn5 hS1 hS4 hP5 hP64 hIn) H.size) (cwV 2 hts (gV wd574 wd575 wd576 wd7 wd577) rfl rfl rfl (by decide +kernel) ⟨Nat.le_of_ble_eq_true rfl, Nat.le_of_ble_eq_true rfl⟩) ⟨fb_PW, va_recv (q0 := 0) (ci := 5) hK hPc rfl rfl, pre_PW hK hPc hDc hZ⟩ rfl rfl hl.1 rfl (lv_room (Nat.le_of_ble_eq_true rfl)) dLaw_law_360 ⟨Nat.le_of_ble_eq_true rfl, Nat.le_of_ble_eq_true rfl⟩) hP hD hS hA (fun r w1 H locs hw hP hD hS => ?_)
  obtain ⟨rfl, rfl⟩ := hw
  refine lv_icmp_eq (tgt := 656) hx hb dLaw_law_363 (by decide) (fun _ => ?_) (fun h9 => absurd rfl h9)
  exact kk ((sTell n S P x (xs (i + 1)) (xs (i + 2))).2) H locs (Inv_tell hn5 hS4 hIn) hP hD hS
set_option maxRecDepth 100000 in
set_option maxHeartbeats 2000000 in
theorem lawk_8 {p : Program} {e : Env} {s : State} {m : MethodId} {below : List Frame} {meth : Method} {c : Code} (l : Launch) {b L : Nat} {xs : Nat → Int32} (hL : L ≤ 2563) (hx : p.tables.exec = Jvm.exec) (hb : c.code = code) (hml : c.maxLocals = 4) (hown : s.vm.findClass "DecreePoolLaw" = some m.cls) (hts : ∀ w ∈ wsLaw0, w.before #[Value.ref b] s = true) (hX : va_X b L xs s s.heap) (hbl : b < s.heap.size) (D : va_G) (cI cZ : ClassId) (hK : va_K D vwCl [(cI, .int), (cZ, .boolean)] s) (hZ : NZ s) (q qm : Nat → Nat) (n S P : Nat) (hn1 : 1 ≤ n) (hn5 : n ≤ 5) (hS1 : 1 ≤ S) (hS4 : S ≤ 4) (hP5 : 5 ≤ P) (hP64 : P ≤ 64) (A : Nat → Prop) (hA : ∀ z : Nat, s.heap.size ≤ z → A z) (hbA : ¬ A b) {Q : State → Prop} (i : Nat) (x : St) (ls : Array Slot) (H : Heap) (locs : List Loc) (hi5 : i + 5 ≤ L) (hIn : Inv n S x) (hl : lv_has ls 4 [(3, .int (nI i)), (2, .ref (qm 0)), (1, .ref (q 0)), (0, .ref b)]) (hP : va_P D vwCl (wX q cI n S P x ++ wM qm cI cZ n S P x) H) (hD : va_D A (wX q cI n S P x ++ wM qm cI cZ n S P x)) (hS : va_S A s.heap H locs)
    (kk : ∀ (y : St) (H : Heap) (locs : List Loc), Inv n S y → va_P D vwCl (wX q cI n S P y ++ wM qm cI cZ n S P y) H → va_D A (wX q cI n S P y ++ wM qm cI cZ n S P y) → va_S A s.heap H locs → W p l e room_1 s m #[Value.ref b] below meth c H locs 37 1632 Q (F0 m 656 ls [])) : W p l e room_1 s m #[Value.ref b] below meth c H locs 37 1632 Q (F0 m 368 ls []) := by
  refine lv_aload_n hx hb dLaw_law_368 rfl (lv_at hl 2 rfl) ?_
  refine lv_aload_n hx hb dLaw_law_369 rfl (lv_at hl 3 rfl) ?_
  refine lv_iload_n hx hb dLaw_law_370 rfl (lv_at hl 0 rfl) ?_
  refine lv_iconst (v := nI 1) hx hb dLaw_law_371 (by decide) ?_
  refine lv_iadd hx hb dLaw_law_372 ?_
  refine lv_topi (nm_r (nI_add _ _) ?_)
  refine va_sld hx hb hX hbl hbA hS (i := nI (i + 1)) (vp_in_nI (show i + 1 < L by omega) (by omega)) dLaw_law_373 ?_
  refine lv_topi (nm_r (show xs (nI (i + 1)).toNatClampNeg = xs (i + 1) from congrArg xs (nI_clamp (by omega))) ?_)
  refine lv_aload_n hx hb dLaw_law_374 rfl (lv_at hl 3 rfl) ?_
  refine lv_iload_n hx hb dLaw_law_375 rfl (lv_at hl 0 rfl) ?_
  refine lv_iconst (v := nI 2) hx hb dLaw_law_376 (by decide) ?_
  refine lv_iadd hx hb dLaw_law_377 ?_
  refine lv_topi (nm_r (nI_add _ _) ?_)
  refine va_sld hx hb hX hbl hbA hS (i := nI (i + 2)) (vp_in_nI (show i + 2 < L by omega) (by omega)) dLaw_law_378 ?_
  refine lv_topi (nm_r (show xs (nI (i + 2)).toNatClampNeg = xs (i + 2) from congrArg xs (nI_clamp (by omega))) ?_)
  have hPc := (blk_P hP).1
  have hDc := (blk_D hD).1
  refine kx_iL (va_runV (As := [.int (xs (i + 1)), .int (xs (i + 2))]) (rest := []) ⟨hx, hb, hml, hown, hts⟩ ((c_learned l D cI cZ q n S P x (xs (i + 1)) (xs (i + 2)) hn1 hn5 hS1 hS4 hP5 hP64) H.size) (cwV 2 hts (gV wd329 wd330 wd331 wd1 wd332) rfl rfl rfl (by decide +kernel) ⟨Nat.le_of_ble_eq_true rfl, Nat.le_of_ble_eq_true rfl⟩) ⟨fb_PW, va_recv (q0 := 0) (ci := 0) hK hPc rfl rfl, pre_PW hK hPc hDc hZ⟩ rfl rfl hl.1 rfl (lv_room (Nat.le_of_ble_eq_true rfl)) dLaw_law_379 ⟨Nat.le_of_ble_eq_true rfl, Nat.le_of_ble_eq_true rfl⟩) hP hD hS hA (fun r w1 H locs hw hP hD hS => ?_)
  obtain ⟨rfl, rfl⟩ := hw
  refine lv_aload_n hx hb dLaw_law_382 rfl (lv_at hl 1 rfl) ?_
  refine lv_aload_n hx hb dLaw_law_383 rfl (lv_at hl 3 rfl) ?_
  refine lv_iload_n hx hb dLaw_law_384 rfl (lv_at hl 0 rfl) ?_
  refine lv_iconst (v := nI 1) hx hb dLaw_law_385 (by decide) ?_
  refine lv_iadd hx hb dLaw_law_386 ?_
  refine lv_topi (nm_r (nI_add _ _) ?_)
  refine va_sld hx hb hX hbl hbA hS (i := nI (i + 1)) (vp_in_nI (show i + 1 < L by omega) (by omega)) dLaw_law_387 ?_
  refine lv_topi (nm_r (show xs (nI (i + 1)).toNatClampNeg = xs (i + 1) from congrArg xs (nI_clamp (by omega))) ?_)
  refine lv_aload_n hx hb dLaw_law_388 rfl (lv_at hl 3 rfl) ?_
  refine lv_iload_n hx hb dLaw_law_389 rfl (lv_at hl 0 rfl) ?_
  refine lv_iconst (v := nI 2) hx hb dLaw_law_390 (by decide) ?_
  refine lv_iadd hx hb dLaw_law_391 ?_
  refine lv_topi (nm_r (nI_add _ _) ?_)
  refine va_sld hx hb hX hbl hbA hS (i := nI (i + 2)) (vp_in_nI (show i + 2 < L by omega) (by omega)) dLaw_law_392 ?_
  refine lv_topi (nm_r (show xs (nI (i + 2)).toNatClampNeg = xs (i + 2) from congrArg xs (nI_clamp (by omega))) ?_)
  have hPc := (blk_P hP).2
  have hDc := (blk_D hD).2.1
  refine kx_iR (va_runV (As := [.int (xs (i + 1)), .int (xs (i + 2))]) (rest := [.int (aLearned n S x (xs (i + 1)) (xs (i + 2)))]) ⟨hx, hb, hml, hown, hts⟩ ((m_learned l D cI cZ qm n S P x (xs (i + 1)) (xs (i + 2)) hn1 hn5 hS1 hS4 hP5 hP64) H.size) (cwV 2 hts (gV wd578 wd579 wd580 wd7 wd581) rfl rfl rfl (by decide +kernel) ⟨Nat.le_of_ble_eq_true rfl, Nat.le_of_ble_eq_true rfl⟩) ⟨fb_PW, va_recv (q0 := 0) (ci := 5) hK hPc rfl rfl, pre_PW hK hPc hDc hZ⟩ rfl rfl hl.1 rfl (lv_room (Nat.le_of_ble_eq_true rfl)) dLaw_law_393 ⟨Nat.le_of_ble_eq_true rfl, Nat.le_of_ble_eq_true rfl⟩) hP hD hS hA (fun r w1 H locs hw hP hD hS => ?_)
  obtain ⟨rfl, rfl⟩ := hw
  refine lv_icmp_eq (tgt := 656) hx hb dLaw_law_396 (by decide) (fun _ => ?_) (fun h9 => absurd rfl h9)
  exact kk x H locs (hIn) hP hD hS
set_option maxRecDepth 100000 in
set_option maxHeartbeats 2000000 in
theorem lawk_9 {p : Program} {e : Env} {s : State} {m : MethodId} {below : List Frame} {meth : Method} {c : Code} (l : Launch) {b L : Nat} {xs : Nat → Int32} (hL : L ≤ 2563) (hx : p.tables.exec = Jvm.exec) (hb : c.code = code) (hml : c.maxLocals = 4) (hown : s.vm.findClass "DecreePoolLaw" = some m.cls) (hts : ∀ w ∈ wsLaw0, w.before #[Value.ref b] s = true) (hX : va_X b L xs s s.heap) (hbl : b < s.heap.size) (D : va_G) (cI cZ : ClassId) (hK : va_K D vwCl [(cI, .int), (cZ, .boolean)] s) (hZ : NZ s) (q qm : Nat → Nat) (n S P : Nat) (hn1 : 1 ≤ n) (hn5 : n ≤ 5) (hS1 : 1 ≤ S) (hS4 : S ≤ 4) (hP5 : 5 ≤ P) (hP64 : P ≤ 64) (A : Nat → Prop) (hA : ∀ z : Nat, s.heap.size ≤ z → A z) (hbA : ¬ A b) {Q : State → Prop} (i : Nat) (x : St) (ls : Array Slot) (H : Heap) (locs : List Loc) (hi5 : i + 5 ≤ L) (hIn : Inv n S x) (hl : lv_has ls 4 [(3, .int (nI i)), (2, .ref (qm 0)), (1, .ref (q 0)), (0, .ref b)]) (hP : va_P D vwCl (wX q cI n S P x ++ wM qm cI cZ n S P x) H) (hD : va_D A (wX q cI n S P x ++ wM qm cI cZ n S P x)) (hS : va_S A s.heap H locs)
    (kk : ∀ (y : St) (H : Heap) (locs : List Loc), Inv n S y → va_P D vwCl (wX q cI n S P y ++ wM qm cI cZ n S P y) H → va_D A (wX q cI n S P y ++ wM qm cI cZ n S P y) → va_S A s.heap H locs → W p l e room_1 s m #[Value.ref b] below meth c H locs 37 1632 Q (F0 m 656 ls [])) : W p l e room_1 s m #[Value.ref b] below meth c H locs 37 1632 Q (F0 m 401 ls []) := by
  refine lv_aload_n hx hb dLaw_law_401 rfl (lv_at hl 2 rfl) ?_
  refine lv_aload_n hx hb dLaw_law_402 rfl (lv_at hl 3 rfl) ?_
  refine lv_iload_n hx hb dLaw_law_403 rfl (lv_at hl 0 rfl) ?_
  refine lv_iconst (v := nI 1) hx hb dLaw_law_404 (by decide) ?_
  refine lv_iadd hx hb dLaw_law_405 ?_
  refine lv_topi (nm_r (nI_add _ _) ?_)
  refine va_sld hx hb hX hbl hbA hS (i := nI (i + 1)) (vp_in_nI (show i + 1 < L by omega) (by omega)) dLaw_law_406 ?_
  refine lv_topi (nm_r (show xs (nI (i + 1)).toNatClampNeg = xs (i + 1) from congrArg xs (nI_clamp (by omega))) ?_)
  refine lv_aload_n hx hb dLaw_law_407 rfl (lv_at hl 3 rfl) ?_
  refine lv_iload_n hx hb dLaw_law_408 rfl (lv_at hl 0 rfl) ?_
  refine lv_iconst (v := nI 2) hx hb dLaw_law_409 (by decide) ?_
  refine lv_iadd hx hb dLaw_law_410 ?_
  refine lv_topi (nm_r (nI_add _ _) ?_)
  refine va_sld hx hb hX hbl hbA hS (i := nI (i + 2)) (vp_in_nI (show i + 2 < L by omega) (by omega)) dLaw_law_411 ?_
  refine lv_topi (nm_r (show xs (nI (i + 2)).toNatClampNeg = xs (i + 2) from congrArg xs (nI_clamp (by omega))) ?_)
  refine lv_aload_n hx hb dLaw_law_412 rfl (lv_at hl 3 rfl) ?_
  refine lv_iload_n hx hb dLaw_law_413 rfl (lv_at hl 0 rfl) ?_
  refine lv_iconst (v := nI 3) hx hb dLaw_law_414 (by decide) ?_
  refine lv_iadd hx hb dLaw_law_415 ?_
  refine lv_topi (nm_r (nI_add _ _) ?_)
  refine va_sld hx hb hX hbl hbA hS (i := nI (i + 3)) (vp_in_nI (show i + 3 < L by omega) (by omega)) dLaw_law_416 ?_
  refine lv_topi (nm_r (show xs (nI (i + 3)).toNatClampNeg = xs (i + 3) from congrArg xs (nI_clamp (by omega))) ?_)
  have hPc := (blk_P hP).1
  have hDc := (blk_D hD).1
  refine kx_iL (va_runV (As := [.int (xs (i + 1)), .int (xs (i + 2)), .int (xs (i + 3))]) (rest := []) ⟨hx, hb, hml, hown, hts⟩ ((c_acceptor l D cI cZ q n S P x (xs (i + 1)) (xs (i + 2)) (xs (i + 3)) hn1 hn5 hS1 hS4 hP5 hP64) H.size) (cwV 3 hts (gV wd333 wd334 wd335 wd1 wd336) rfl rfl rfl (by decide +kernel) ⟨Nat.le_of_ble_eq_true rfl, Nat.le_of_ble_eq_true rfl⟩) ⟨fb_PW, va_recv (q0 := 0) (ci := 0) hK hPc rfl rfl, pre_PW hK hPc hDc hZ⟩ rfl rfl hl.1 rfl (lv_room (Nat.le_of_ble_eq_true rfl)) dLaw_law_417 ⟨Nat.le_of_ble_eq_true rfl, Nat.le_of_ble_eq_true rfl⟩) hP hD hS hA (fun r w1 H locs hw hP hD hS => ?_)
  obtain ⟨rfl, rfl⟩ := hw
  refine lv_aload_n hx hb dLaw_law_420 rfl (lv_at hl 1 rfl) ?_
  refine lv_aload_n hx hb dLaw_law_421 rfl (lv_at hl 3 rfl) ?_
  refine lv_iload_n hx hb dLaw_law_422 rfl (lv_at hl 0 rfl) ?_
  refine lv_iconst (v := nI 1) hx hb dLaw_law_423 (by decide) ?_
  refine lv_iadd hx hb dLaw_law_424 ?_
  refine lv_topi (nm_r (nI_add _ _) ?_)
  refine va_sld hx hb hX hbl hbA hS (i := nI (i + 1)) (vp_in_nI (show i + 1 < L by omega) (by omega)) dLaw_law_425 ?_
  refine lv_topi (nm_r (show xs (nI (i + 1)).toNatClampNeg = xs (i + 1) from congrArg xs (nI_clamp (by omega))) ?_)
  refine lv_aload_n hx hb dLaw_law_426 rfl (lv_at hl 3 rfl) ?_
  refine lv_iload_n hx hb dLaw_law_427 rfl (lv_at hl 0 rfl) ?_
  refine lv_iconst (v := nI 2) hx hb dLaw_law_428 (by decide) ?_
  refine lv_iadd hx hb dLaw_law_429 ?_
  refine lv_topi (nm_r (nI_add _ _) ?_)
  refine va_sld hx hb hX hbl hbA hS (i := nI (i + 2)) (vp_in_nI (show i + 2 < L by omega) (by omega)) dLaw_law_430 ?_
  refine lv_topi (nm_r (show xs (nI (i + 2)).toNatClampNeg = xs (i + 2) from congrArg xs (nI_clamp (by omega))) ?_)
  refine lv_aload_n hx hb dLaw_law_431 rfl (lv_at hl 3 rfl) ?_
  refine lv_iload_n hx hb dLaw_law_432 rfl (lv_at hl 0 rfl) ?_
  refine lv_iconst (v := nI 3) hx hb dLaw_law_433 (by decide) ?_
  refine lv_iadd hx hb dLaw_law_434 ?_
  refine lv_topi (nm_r (nI_add _ _) ?_)
  refine va_sld hx hb hX hbl hbA hS (i := nI (i + 3)) (vp_in_nI (show i + 3 < L by omega) (by omega)) dLaw_law_435 ?_
  refine lv_topi (nm_r (show xs (nI (i + 3)).toNatClampNeg = xs (i + 3) from congrArg xs (nI_clamp (by omega))) ?_)
  have hPc := (blk_P hP).2
  have hDc := (blk_D hD).2.1
  refine kx_iR (va_runV (As := [.int (xs (i + 1)), .int (xs (i + 2)), .int (xs (i + 3))]) (rest := [.int (aAcc n S x (xs (i + 1)) (xs (i + 2)) (xs (i + 3)))]) ⟨hx, hb, hml, hown, hts⟩ ((m_acceptor l D cI cZ qm n S P x (xs (i + 1)) (xs (i + 2)) (xs (i + 3)) hn1 hn5 hS1 hS4 hP5 hP64) H.size) (cwV 3 hts (gV wd582 wd583 wd584 wd7 wd585) rfl rfl rfl (by decide +kernel) ⟨Nat.le_of_ble_eq_true rfl, Nat.le_of_ble_eq_true rfl⟩) ⟨fb_PW, va_recv (q0 := 0) (ci := 5) hK hPc rfl rfl, pre_PW hK hPc hDc hZ⟩ rfl rfl hl.1 rfl (lv_room (Nat.le_of_ble_eq_true rfl)) dLaw_law_436 ⟨Nat.le_of_ble_eq_true rfl, Nat.le_of_ble_eq_true rfl⟩) hP hD hS hA (fun r w1 H locs hw hP hD hS => ?_)
  obtain ⟨rfl, rfl⟩ := hw
  refine lv_icmp_eq (tgt := 656) hx hb dLaw_law_439 (by decide) (fun _ => ?_) (fun h9 => absurd rfl h9)
  exact kk x H locs (hIn) hP hD hS
set_option maxRecDepth 100000 in
set_option maxHeartbeats 2000000 in
theorem lawk_10 {p : Program} {e : Env} {s : State} {m : MethodId} {below : List Frame} {meth : Method} {c : Code} (l : Launch) {b L : Nat} {xs : Nat → Int32} (hL : L ≤ 2563) (hx : p.tables.exec = Jvm.exec) (hb : c.code = code) (hml : c.maxLocals = 4) (hown : s.vm.findClass "DecreePoolLaw" = some m.cls) (hts : ∀ w ∈ wsLaw0, w.before #[Value.ref b] s = true) (hX : va_X b L xs s s.heap) (hbl : b < s.heap.size) (D : va_G) (cI cZ : ClassId) (hK : va_K D vwCl [(cI, .int), (cZ, .boolean)] s) (hZ : NZ s) (q qm : Nat → Nat) (n S P : Nat) (hn1 : 1 ≤ n) (hn5 : n ≤ 5) (hS1 : 1 ≤ S) (hS4 : S ≤ 4) (hP5 : 5 ≤ P) (hP64 : P ≤ 64) (A : Nat → Prop) (hA : ∀ z : Nat, s.heap.size ≤ z → A z) (hbA : ¬ A b) {Q : State → Prop} (i : Nat) (x : St) (ls : Array Slot) (H : Heap) (locs : List Loc) (hi5 : i + 5 ≤ L) (hIn : Inv n S x) (hl : lv_has ls 4 [(3, .int (nI i)), (2, .ref (qm 0)), (1, .ref (q 0)), (0, .ref b)]) (hP : va_P D vwCl (wX q cI n S P x ++ wM qm cI cZ n S P x) H) (hD : va_D A (wX q cI n S P x ++ wM qm cI cZ n S P x)) (hS : va_S A s.heap H locs)
    (kk : ∀ (y : St) (H : Heap) (locs : List Loc), Inv n S y → va_P D vwCl (wX q cI n S P y ++ wM qm cI cZ n S P y) H → va_D A (wX q cI n S P y ++ wM qm cI cZ n S P y) → va_S A s.heap H locs → W p l e room_1 s m #[Value.ref b] below meth c H locs 37 1632 Q (F0 m 656 ls [])) : W p l e room_1 s m #[Value.ref b] below meth c H locs 37 1632 Q (F0 m 444 ls []) := by
  refine lv_aload_n hx hb dLaw_law_444 rfl (lv_at hl 2 rfl) ?_
  refine lv_aload_n hx hb dLaw_law_445 rfl (lv_at hl 3 rfl) ?_
  refine lv_iload_n hx hb dLaw_law_446 rfl (lv_at hl 0 rfl) ?_
  refine lv_iconst (v := nI 1) hx hb dLaw_law_447 (by decide) ?_
  refine lv_iadd hx hb dLaw_law_448 ?_
  refine lv_topi (nm_r (nI_add _ _) ?_)
  refine va_sld hx hb hX hbl hbA hS (i := nI (i + 1)) (vp_in_nI (show i + 1 < L by omega) (by omega)) dLaw_law_449 ?_
  refine lv_topi (nm_r (show xs (nI (i + 1)).toNatClampNeg = xs (i + 1) from congrArg xs (nI_clamp (by omega))) ?_)
  refine lv_aload_n hx hb dLaw_law_450 rfl (lv_at hl 3 rfl) ?_
  refine lv_iload_n hx hb dLaw_law_451 rfl (lv_at hl 0 rfl) ?_
  refine lv_iconst (v := nI 2) hx hb dLaw_law_452 (by decide) ?_
  refine lv_iadd hx hb dLaw_law_453 ?_
  refine lv_topi (nm_r (nI_add _ _) ?_)
  refine va_sld hx hb hX hbl hbA hS (i := nI (i + 2)) (vp_in_nI (show i + 2 < L by omega) (by omega)) dLaw_law_454 ?_
  refine lv_topi (nm_r (show xs (nI (i + 2)).toNatClampNeg = xs (i + 2) from congrArg xs (nI_clamp (by omega))) ?_)
  refine lv_aload_n hx hb dLaw_law_455 rfl (lv_at hl 3 rfl) ?_
  refine lv_iload_n hx hb dLaw_law_456 rfl (lv_at hl 0 rfl) ?_
  refine lv_iconst (v := nI 3) hx hb dLaw_law_457 (by decide) ?_
  refine lv_iadd hx hb dLaw_law_458 ?_
  refine lv_topi (nm_r (nI_add _ _) ?_)
  refine va_sld hx hb hX hbl hbA hS (i := nI (i + 3)) (vp_in_nI (show i + 3 < L by omega) (by omega)) dLaw_law_459 ?_
  refine lv_topi (nm_r (show xs (nI (i + 3)).toNatClampNeg = xs (i + 3) from congrArg xs (nI_clamp (by omega))) ?_)
  have hPc := (blk_P hP).1
  have hDc := (blk_D hD).1
  refine kx_iL (va_runV (As := [.int (xs (i + 1)), .int (xs (i + 2)), .int (xs (i + 3))]) (rest := []) ⟨hx, hb, hml, hown, hts⟩ ((c_proposer l D cI cZ q n S P x (xs (i + 1)) (xs (i + 2)) (xs (i + 3)) hn1 hn5 hS1 hS4 hP5 hP64 hIn.2.2.2.2) H.size) (cwV 3 hts (gV wd341 wd342 wd343 wd1 wd344) rfl rfl rfl (by decide +kernel) ⟨Nat.le_of_ble_eq_true rfl, Nat.le_of_ble_eq_true rfl⟩) ⟨fb_PW, va_recv (q0 := 0) (ci := 0) hK hPc rfl rfl, pre_PW hK hPc hDc hZ⟩ rfl rfl hl.1 rfl (lv_room (Nat.le_of_ble_eq_true rfl)) dLaw_law_460 ⟨Nat.le_of_ble_eq_true rfl, Nat.le_of_ble_eq_true rfl⟩) hP hD hS hA (fun r w1 H locs hw hP hD hS => ?_)
  obtain ⟨rfl, rfl⟩ := hw
  refine lv_aload_n hx hb dLaw_law_463 rfl (lv_at hl 1 rfl) ?_
  refine lv_aload_n hx hb dLaw_law_464 rfl (lv_at hl 3 rfl) ?_
  refine lv_iload_n hx hb dLaw_law_465 rfl (lv_at hl 0 rfl) ?_
  refine lv_iconst (v := nI 1) hx hb dLaw_law_466 (by decide) ?_
  refine lv_iadd hx hb dLaw_law_467 ?_
  refine lv_topi (nm_r (nI_add _ _) ?_)
  refine va_sld hx hb hX hbl hbA hS (i := nI (i + 1)) (vp_in_nI (show i + 1 < L by omega) (by omega)) dLaw_law_468 ?_
  refine lv_topi (nm_r (show xs (nI (i + 1)).toNatClampNeg = xs (i + 1) from congrArg xs (nI_clamp (by omega))) ?_)
  refine lv_aload_n hx hb dLaw_law_469 rfl (lv_at hl 3 rfl) ?_
  refine lv_iload_n hx hb dLaw_law_470 rfl (lv_at hl 0 rfl) ?_
  refine lv_iconst (v := nI 2) hx hb dLaw_law_471 (by decide) ?_
  refine lv_iadd hx hb dLaw_law_472 ?_
  refine lv_topi (nm_r (nI_add _ _) ?_)
  refine va_sld hx hb hX hbl hbA hS (i := nI (i + 2)) (vp_in_nI (show i + 2 < L by omega) (by omega)) dLaw_law_473 ?_
  refine lv_topi (nm_r (show xs (nI (i + 2)).toNatClampNeg = xs (i + 2) from congrArg xs (nI_clamp (by omega))) ?_)
  refine lv_aload_n hx hb dLaw_law_474 rfl (lv_at hl 3 rfl) ?_
  refine lv_iload_n hx hb dLaw_law_475 rfl (lv_at hl 0 rfl) ?_
  refine lv_iconst (v := nI 3) hx hb dLaw_law_476 (by decide) ?_
  refine lv_iadd hx hb dLaw_law_477 ?_
  refine lv_topi (nm_r (nI_add _ _) ?_)
  refine va_sld hx hb hX hbl hbA hS (i := nI (i + 3)) (vp_in_nI (show i + 3 < L by omega) (by omega)) dLaw_law_478 ?_
  refine lv_topi (nm_r (show xs (nI (i + 3)).toNatClampNeg = xs (i + 3) from congrArg xs (nI_clamp (by omega))) ?_)
  have hPc := (blk_P hP).2
  have hDc := (blk_D hD).2.1
  refine kx_iR (va_runV (As := [.int (xs (i + 1)), .int (xs (i + 2)), .int (xs (i + 3))]) (rest := [.int (aProp n S x (xs (i + 1)) (xs (i + 2)) (xs (i + 3)))]) ⟨hx, hb, hml, hown, hts⟩ ((m_proposer l D cI cZ qm n S P x (xs (i + 1)) (xs (i + 2)) (xs (i + 3)) hn1 hn5 hS1 hS4 hP5 hP64 hIn) H.size) (cwV 3 hts (gV wd586 wd587 wd588 wd7 wd589) rfl rfl rfl (by decide +kernel) ⟨Nat.le_of_ble_eq_true rfl, Nat.le_of_ble_eq_true rfl⟩) ⟨fb_PW, va_recv (q0 := 0) (ci := 5) hK hPc rfl rfl, pre_PW hK hPc hDc hZ⟩ rfl rfl hl.1 rfl (lv_room (Nat.le_of_ble_eq_true rfl)) dLaw_law_479 ⟨Nat.le_of_ble_eq_true rfl, Nat.le_of_ble_eq_true rfl⟩) hP hD hS hA (fun r w1 H locs hw hP hD hS => ?_)
  obtain ⟨rfl, rfl⟩ := hw
  refine lv_icmp_eq (tgt := 656) hx hb dLaw_law_482 (by decide) (fun _ => ?_) (fun h9 => absurd rfl h9)
  exact kk x H locs (hIn) hP hD hS
set_option maxRecDepth 100000 in
set_option maxHeartbeats 2000000 in
theorem lawk_11 {p : Program} {e : Env} {s : State} {m : MethodId} {below : List Frame} {meth : Method} {c : Code} (l : Launch) {b L : Nat} {xs : Nat → Int32} (hL : L ≤ 2563) (hx : p.tables.exec = Jvm.exec) (hb : c.code = code) (hml : c.maxLocals = 4) (hown : s.vm.findClass "DecreePoolLaw" = some m.cls) (hts : ∀ w ∈ wsLaw0, w.before #[Value.ref b] s = true) (hX : va_X b L xs s s.heap) (hbl : b < s.heap.size) (D : va_G) (cI cZ : ClassId) (hK : va_K D vwCl [(cI, .int), (cZ, .boolean)] s) (hZ : NZ s) (q qm : Nat → Nat) (n S P : Nat) (hn1 : 1 ≤ n) (hn5 : n ≤ 5) (hS1 : 1 ≤ S) (hS4 : S ≤ 4) (hP5 : 5 ≤ P) (hP64 : P ≤ 64) (A : Nat → Prop) (hA : ∀ z : Nat, s.heap.size ≤ z → A z) (hbA : ¬ A b) {Q : State → Prop} (i : Nat) (x : St) (ls : Array Slot) (H : Heap) (locs : List Loc) (hi5 : i + 5 ≤ L) (hIn : Inv n S x) (hl : lv_has ls 4 [(3, .int (nI i)), (2, .ref (qm 0)), (1, .ref (q 0)), (0, .ref b)]) (hP : va_P D vwCl (wX q cI n S P x ++ wM qm cI cZ n S P x) H) (hD : va_D A (wX q cI n S P x ++ wM qm cI cZ n S P x)) (hS : va_S A s.heap H locs)
    (kk : ∀ (y : St) (H : Heap) (locs : List Loc), Inv n S y → va_P D vwCl (wX q cI n S P y ++ wM qm cI cZ n S P y) H → va_D A (wX q cI n S P y ++ wM qm cI cZ n S P y) → va_S A s.heap H locs → W p l e room_1 s m #[Value.ref b] below meth c H locs 37 1632 Q (F0 m 656 ls [])) : W p l e room_1 s m #[Value.ref b] below meth c H locs 37 1632 Q (F0 m 487 ls []) := by
  refine lv_aload_n hx hb dLaw_law_487 rfl (lv_at hl 2 rfl) ?_
  refine lv_aload_n hx hb dLaw_law_488 rfl (lv_at hl 3 rfl) ?_
  refine lv_iload_n hx hb dLaw_law_489 rfl (lv_at hl 0 rfl) ?_
  refine lv_iconst (v := nI 1) hx hb dLaw_law_490 (by decide) ?_
  refine lv_iadd hx hb dLaw_law_491 ?_
  refine lv_topi (nm_r (nI_add _ _) ?_)
  refine va_sld hx hb hX hbl hbA hS (i := nI (i + 1)) (vp_in_nI (show i + 1 < L by omega) (by omega)) dLaw_law_492 ?_
  refine lv_topi (nm_r (show xs (nI (i + 1)).toNatClampNeg = xs (i + 1) from congrArg xs (nI_clamp (by omega))) ?_)
  refine lv_aload_n hx hb dLaw_law_493 rfl (lv_at hl 3 rfl) ?_
  refine lv_iload_n hx hb dLaw_law_494 rfl (lv_at hl 0 rfl) ?_
  refine lv_iconst (v := nI 2) hx hb dLaw_law_495 (by decide) ?_
  refine lv_iadd hx hb dLaw_law_496 ?_
  refine lv_topi (nm_r (nI_add _ _) ?_)
  refine va_sld hx hb hX hbl hbA hS (i := nI (i + 2)) (vp_in_nI (show i + 2 < L by omega) (by omega)) dLaw_law_497 ?_
  refine lv_topi (nm_r (show xs (nI (i + 2)).toNatClampNeg = xs (i + 2) from congrArg xs (nI_clamp (by omega))) ?_)
  refine lv_aload_n hx hb dLaw_law_498 rfl (lv_at hl 3 rfl) ?_
  refine lv_iload_n hx hb dLaw_law_499 rfl (lv_at hl 0 rfl) ?_
  refine lv_iconst (v := nI 3) hx hb dLaw_law_500 (by decide) ?_
  refine lv_iadd hx hb dLaw_law_501 ?_
  refine lv_topi (nm_r (nI_add _ _) ?_)
  refine va_sld hx hb hX hbl hbA hS (i := nI (i + 3)) (vp_in_nI (show i + 3 < L by omega) (by omega)) dLaw_law_502 ?_
  refine lv_topi (nm_r (show xs (nI (i + 3)).toNatClampNeg = xs (i + 3) from congrArg xs (nI_clamp (by omega))) ?_)
  have hPc := (blk_P hP).1
  have hDc := (blk_D hD).1
  refine kx_iL (va_runV (As := [.int (xs (i + 1)), .int (xs (i + 2)), .int (xs (i + 3))]) (rest := []) ⟨hx, hb, hml, hown, hts⟩ ((c_heard l D cI cZ q n S P x (xs (i + 1)) (xs (i + 2)) (xs (i + 3)) hn1 hn5 hS1 hS4 hP5 hP64) H.size) (cwV 3 hts (gV wd354 wd355 wd356 wd1 wd357) rfl rfl rfl (by decide +kernel) ⟨Nat.le_of_ble_eq_true rfl, Nat.le_of_ble_eq_true rfl⟩) ⟨fb_PW, va_recv (q0 := 0) (ci := 0) hK hPc rfl rfl, pre_PW hK hPc hDc hZ⟩ rfl rfl hl.1 rfl (lv_room (Nat.le_of_ble_eq_true rfl)) dLaw_law_503 ⟨Nat.le_of_ble_eq_true rfl, Nat.le_of_ble_eq_true rfl⟩) hP hD hS hA (fun r w1 H locs hw hP hD hS => ?_)
  obtain ⟨rfl, rfl⟩ := hw
  refine lv_aload_n hx hb dLaw_law_506 rfl (lv_at hl 1 rfl) ?_
  refine lv_aload_n hx hb dLaw_law_507 rfl (lv_at hl 3 rfl) ?_
  refine lv_iload_n hx hb dLaw_law_508 rfl (lv_at hl 0 rfl) ?_
  refine lv_iconst (v := nI 1) hx hb dLaw_law_509 (by decide) ?_
  refine lv_iadd hx hb dLaw_law_510 ?_
  refine lv_topi (nm_r (nI_add _ _) ?_)
  refine va_sld hx hb hX hbl hbA hS (i := nI (i + 1)) (vp_in_nI (show i + 1 < L by omega) (by omega)) dLaw_law_511 ?_
  refine lv_topi (nm_r (show xs (nI (i + 1)).toNatClampNeg = xs (i + 1) from congrArg xs (nI_clamp (by omega))) ?_)
  refine lv_aload_n hx hb dLaw_law_512 rfl (lv_at hl 3 rfl) ?_
  refine lv_iload_n hx hb dLaw_law_513 rfl (lv_at hl 0 rfl) ?_
  refine lv_iconst (v := nI 2) hx hb dLaw_law_514 (by decide) ?_
  refine lv_iadd hx hb dLaw_law_515 ?_
  refine lv_topi (nm_r (nI_add _ _) ?_)
  refine va_sld hx hb hX hbl hbA hS (i := nI (i + 2)) (vp_in_nI (show i + 2 < L by omega) (by omega)) dLaw_law_516 ?_
  refine lv_topi (nm_r (show xs (nI (i + 2)).toNatClampNeg = xs (i + 2) from congrArg xs (nI_clamp (by omega))) ?_)
  refine lv_aload_n hx hb dLaw_law_517 rfl (lv_at hl 3 rfl) ?_
  refine lv_iload_n hx hb dLaw_law_518 rfl (lv_at hl 0 rfl) ?_
  refine lv_iconst (v := nI 3) hx hb dLaw_law_519 (by decide) ?_
  refine lv_iadd hx hb dLaw_law_520 ?_
  refine lv_topi (nm_r (nI_add _ _) ?_)
  refine va_sld hx hb hX hbl hbA hS (i := nI (i + 3)) (vp_in_nI (show i + 3 < L by omega) (by omega)) dLaw_law_521 ?_
  refine lv_topi (nm_r (show xs (nI (i + 3)).toNatClampNeg = xs (i + 3) from congrArg xs (nI_clamp (by omega))) ?_)
  have hPc := (blk_P hP).2
  have hDc := (blk_D hD).2.1
  refine kx_iR (va_runV (As := [.int (xs (i + 1)), .int (xs (i + 2)), .int (xs (i + 3))]) (rest := [.int (aHeard n S x (xs (i + 1)) (xs (i + 2)) (xs (i + 3)))]) ⟨hx, hb, hml, hown, hts⟩ ((m_heard l D cI cZ qm n S P x (xs (i + 1)) (xs (i + 2)) (xs (i + 3)) hn1 hn5 hS1 hS4 hP5 hP64) H.size) (cwV 3 hts (gV wd590 wd591 wd592 wd7 wd593) rfl rfl rfl (by decide +kernel) ⟨Nat.le_of_ble_eq_true rfl, Nat.le_of_ble_eq_true rfl⟩) ⟨fb_PW, va_recv (q0 := 0) (ci := 5) hK hPc rfl rfl, pre_PW hK hPc hDc hZ⟩ rfl rfl hl.1 rfl (lv_room (Nat.le_of_ble_eq_true rfl)) dLaw_law_522 ⟨Nat.le_of_ble_eq_true rfl, Nat.le_of_ble_eq_true rfl⟩) hP hD hS hA (fun r w1 H locs hw hP hD hS => ?_)
  obtain ⟨rfl, rfl⟩ := hw
  refine lv_icmp_eq (tgt := 656) hx hb dLaw_law_525 (by decide) (fun _ => ?_) (fun h9 => absurd rfl h9)
  exact kk x H locs (hIn) hP hD hS
set_option maxRecDepth 100000 in
set_option maxHeartbeats 2000000 in
theorem lawk_12 {p : Program} {e : Env} {s : State} {m : MethodId} {below : List Frame} {meth : Method} {c : Code} (l : Launch) {b L : Nat} {xs : Nat → Int32} (hL : L ≤ 2563) (hx : p.tables.exec = Jvm.exec) (hb : c.code = code) (hml : c.maxLocals = 4) (hown : s.vm.findClass "DecreePoolLaw" = some m.cls) (hts : ∀ w ∈ wsLaw0, w.before #[Value.ref b] s = true) (hX : va_X b L xs s s.heap) (hbl : b < s.heap.size) (D : va_G) (cI cZ : ClassId) (hK : va_K D vwCl [(cI, .int), (cZ, .boolean)] s) (hZ : NZ s) (q qm : Nat → Nat) (n S P : Nat) (hn1 : 1 ≤ n) (hn5 : n ≤ 5) (hS1 : 1 ≤ S) (hS4 : S ≤ 4) (hP5 : 5 ≤ P) (hP64 : P ≤ 64) (A : Nat → Prop) (hA : ∀ z : Nat, s.heap.size ≤ z → A z) (hbA : ¬ A b) {Q : State → Prop} (i : Nat) (x : St) (ls : Array Slot) (H : Heap) (locs : List Loc) (hi5 : i + 5 ≤ L) (hIn : Inv n S x) (hl : lv_has ls 4 [(3, .int (nI i)), (2, .ref (qm 0)), (1, .ref (q 0)), (0, .ref b)]) (hP : va_P D vwCl (wX q cI n S P x ++ wM qm cI cZ n S P x) H) (hD : va_D A (wX q cI n S P x ++ wM qm cI cZ n S P x)) (hS : va_S A s.heap H locs)
    (kk : ∀ (y : St) (H : Heap) (locs : List Loc), Inv n S y → va_P D vwCl (wX q cI n S P y ++ wM qm cI cZ n S P y) H → va_D A (wX q cI n S P y ++ wM qm cI cZ n S P y) → va_S A s.heap H locs → W p l e room_1 s m #[Value.ref b] below meth c H locs 37 1632 Q (F0 m 656 ls [])) : W p l e room_1 s m #[Value.ref b] below meth c H locs 37 1632 Q (F0 m 530 ls []) := by
  refine lv_aload_n hx hb dLaw_law_530 rfl (lv_at hl 2 rfl) ?_
  refine lv_aload_n hx hb dLaw_law_531 rfl (lv_at hl 3 rfl) ?_
  refine lv_iload_n hx hb dLaw_law_532 rfl (lv_at hl 0 rfl) ?_
  refine lv_iconst (v := nI 1) hx hb dLaw_law_533 (by decide) ?_
  refine lv_iadd hx hb dLaw_law_534 ?_
  refine lv_topi (nm_r (nI_add _ _) ?_)
  refine va_sld hx hb hX hbl hbA hS (i := nI (i + 1)) (vp_in_nI (show i + 1 < L by omega) (by omega)) dLaw_law_535 ?_
  refine lv_topi (nm_r (show xs (nI (i + 1)).toNatClampNeg = xs (i + 1) from congrArg xs (nI_clamp (by omega))) ?_)
  refine lv_aload_n hx hb dLaw_law_536 rfl (lv_at hl 3 rfl) ?_
  refine lv_iload_n hx hb dLaw_law_537 rfl (lv_at hl 0 rfl) ?_
  refine lv_iconst (v := nI 2) hx hb dLaw_law_538 (by decide) ?_
  refine lv_iadd hx hb dLaw_law_539 ?_
  refine lv_topi (nm_r (nI_add _ _) ?_)
  refine va_sld hx hb hX hbl hbA hS (i := nI (i + 2)) (vp_in_nI (show i + 2 < L by omega) (by omega)) dLaw_law_540 ?_
  refine lv_topi (nm_r (show xs (nI (i + 2)).toNatClampNeg = xs (i + 2) from congrArg xs (nI_clamp (by omega))) ?_)
  have hPc := (blk_P hP).1
  have hDc := (blk_D hD).1
  refine kx_iL (va_runV (As := [.int (xs (i + 1)), .int (xs (i + 2))]) (rest := []) ⟨hx, hb, hml, hown, hts⟩ ((c_message l D cI cZ q n S P x (xs (i + 1)) (xs (i + 2)) hn1 hn5 hS1 hS4 hP5 hP64) H.size) (cwV 2 hts (gV wd359 wd360 wd361 wd1 wd362) rfl rfl rfl (by decide +kernel) ⟨Nat.le_of_ble_eq_true rfl, Nat.le_of_ble_eq_true rfl⟩) ⟨fb_PW, va_recv (q0 := 0) (ci := 0) hK hPc rfl rfl, pre_PW hK hPc hDc hZ⟩ rfl rfl hl.1 rfl (lv_room (Nat.le_of_ble_eq_true rfl)) dLaw_law_541 ⟨Nat.le_of_ble_eq_true rfl, Nat.le_of_ble_eq_true rfl⟩) hP hD hS hA (fun r w1 H locs hw hP hD hS => ?_)
  obtain ⟨rfl, rfl⟩ := hw
  refine lv_aload_n hx hb dLaw_law_544 rfl (lv_at hl 1 rfl) ?_
  refine lv_aload_n hx hb dLaw_law_545 rfl (lv_at hl 3 rfl) ?_
  refine lv_iload_n hx hb dLaw_law_546 rfl (lv_at hl 0 rfl) ?_
  refine lv_iconst (v := nI 1) hx hb dLaw_law_547 (by decide) ?_
  refine lv_iadd hx hb dLaw_law_548 ?_
  refine lv_topi (nm_r (nI_add _ _) ?_)
  refine va_sld hx hb hX hbl hbA hS (i := nI (i + 1)) (vp_in_nI (show i + 1 < L by omega) (by omega)) dLaw_law_549 ?_
  refine lv_topi (nm_r (show xs (nI (i + 1)).toNatClampNeg = xs (i + 1) from congrArg xs (nI_clamp (by omega))) ?_)
  refine lv_aload_n hx hb dLaw_law_550 rfl (lv_at hl 3 rfl) ?_
  refine lv_iload_n hx hb dLaw_law_551 rfl (lv_at hl 0 rfl) ?_
  refine lv_iconst (v := nI 2) hx hb dLaw_law_552 (by decide) ?_
  refine lv_iadd hx hb dLaw_law_553 ?_
  refine lv_topi (nm_r (nI_add _ _) ?_)
  refine va_sld hx hb hX hbl hbA hS (i := nI (i + 2)) (vp_in_nI (show i + 2 < L by omega) (by omega)) dLaw_law_554 ?_
  refine lv_topi (nm_r (show xs (nI (i + 2)).toNatClampNeg = xs (i + 2) from congrArg xs (nI_clamp (by omega))) ?_)
  have hPc := (blk_P hP).2
  have hDc := (blk_D hD).2.1
  refine kx_iR (va_runV (As := [.int (xs (i + 1)), .int (xs (i + 2))]) (rest := [.int (aMsg P x (xs (i + 1)) (xs (i + 2)))]) ⟨hx, hb, hml, hown, hts⟩ ((m_message l D cI cZ qm n S P x (xs (i + 1)) (xs (i + 2)) hn1 hn5 hS1 hS4 hP5 hP64 hIn) H.size) (cwV 2 hts (gV wd594 wd595 wd596 wd7 wd597) rfl rfl rfl (by decide +kernel) ⟨Nat.le_of_ble_eq_true rfl, Nat.le_of_ble_eq_true rfl⟩) ⟨fb_PW, va_recv (q0 := 0) (ci := 5) hK hPc rfl rfl, pre_PW hK hPc hDc hZ⟩ rfl rfl hl.1 rfl (lv_room (Nat.le_of_ble_eq_true rfl)) dLaw_law_555 ⟨Nat.le_of_ble_eq_true rfl, Nat.le_of_ble_eq_true rfl⟩) hP hD hS hA (fun r w1 H locs hw hP hD hS => ?_)
  obtain ⟨rfl, rfl⟩ := hw
  refine lv_icmp_eq (tgt := 656) hx hb dLaw_law_558 (by decide) (fun _ => ?_) (fun h9 => absurd rfl h9)
  exact kk x H locs (hIn) hP hD hS
set_option maxRecDepth 100000 in
set_option maxHeartbeats 2000000 in
theorem lawk_13 {p : Program} {e : Env} {s : State} {m : MethodId} {below : List Frame} {meth : Method} {c : Code} (l : Launch) {b L : Nat} {xs : Nat → Int32} (hL : L ≤ 2563) (hx : p.tables.exec = Jvm.exec) (hb : c.code = code) (hml : c.maxLocals = 4) (hown : s.vm.findClass "DecreePoolLaw" = some m.cls) (hts : ∀ w ∈ wsLaw0, w.before #[Value.ref b] s = true) (hX : va_X b L xs s s.heap) (hbl : b < s.heap.size) (D : va_G) (cI cZ : ClassId) (hK : va_K D vwCl [(cI, .int), (cZ, .boolean)] s) (hZ : NZ s) (q qm : Nat → Nat) (n S P : Nat) (hn1 : 1 ≤ n) (hn5 : n ≤ 5) (hS1 : 1 ≤ S) (hS4 : S ≤ 4) (hP5 : 5 ≤ P) (hP64 : P ≤ 64) (A : Nat → Prop) (hA : ∀ z : Nat, s.heap.size ≤ z → A z) (hbA : ¬ A b) {Q : State → Prop} (i : Nat) (x : St) (ls : Array Slot) (H : Heap) (locs : List Loc) (hi5 : i + 5 ≤ L) (hIn : Inv n S x) (hl : lv_has ls 4 [(3, .int (nI i)), (2, .ref (qm 0)), (1, .ref (q 0)), (0, .ref b)]) (hP : va_P D vwCl (wX q cI n S P x ++ wM qm cI cZ n S P x) H) (hD : va_D A (wX q cI n S P x ++ wM qm cI cZ n S P x)) (hS : va_S A s.heap H locs)
    (kk : ∀ (y : St) (H : Heap) (locs : List Loc), Inv n S y → va_P D vwCl (wX q cI n S P y ++ wM qm cI cZ n S P y) H → va_D A (wX q cI n S P y ++ wM qm cI cZ n S P y) → va_S A s.heap H locs → W p l e room_1 s m #[Value.ref b] below meth c H locs 37 1632 Q (F0 m 656 ls [])) : W p l e room_1 s m #[Value.ref b] below meth c H locs 37 1632 Q (F0 m 563 ls []) := by
  refine lv_aload_n hx hb dLaw_law_563 rfl (lv_at hl 2 rfl) ?_
  refine lv_aload_n hx hb dLaw_law_564 rfl (lv_at hl 3 rfl) ?_
  refine lv_iload_n hx hb dLaw_law_565 rfl (lv_at hl 0 rfl) ?_
  refine lv_iconst (v := nI 1) hx hb dLaw_law_566 (by decide) ?_
  refine lv_iadd hx hb dLaw_law_567 ?_
  refine lv_topi (nm_r (nI_add _ _) ?_)
  refine va_sld hx hb hX hbl hbA hS (i := nI (i + 1)) (vp_in_nI (show i + 1 < L by omega) (by omega)) dLaw_law_568 ?_
  refine lv_topi (nm_r (show xs (nI (i + 1)).toNatClampNeg = xs (i + 1) from congrArg xs (nI_clamp (by omega))) ?_)
  have hPc := (blk_P hP).1
  have hDc := (blk_D hD).1
  refine kx_iL (va_runV (As := [.int (xs (i + 1))]) (rest := []) ⟨hx, hb, hml, hown, hts⟩ ((c_chosen l D cI cZ q n S P x (xs (i + 1)) hn1 hn5 hS1 hS4 hP5 hP64) H.size) (cwV 1 hts (gV wd363 wd364 wd365 wd1 wd366) rfl rfl rfl (by decide +kernel) ⟨Nat.le_of_ble_eq_true rfl, Nat.le_of_ble_eq_true rfl⟩) ⟨fb_PW, va_recv (q0 := 0) (ci := 0) hK hPc rfl rfl, pre_PW hK hPc hDc hZ⟩ rfl rfl hl.1 rfl (lv_room (Nat.le_of_ble_eq_true rfl)) dLaw_law_569 ⟨Nat.le_of_ble_eq_true rfl, Nat.le_of_ble_eq_true rfl⟩) hP hD hS hA (fun r w1 H locs hw hP hD hS => ?_)
  obtain ⟨rfl, rfl⟩ := hw
  refine lv_aload_n hx hb dLaw_law_572 rfl (lv_at hl 1 rfl) ?_
  refine lv_aload_n hx hb dLaw_law_573 rfl (lv_at hl 3 rfl) ?_
  refine lv_iload_n hx hb dLaw_law_574 rfl (lv_at hl 0 rfl) ?_
  refine lv_iconst (v := nI 1) hx hb dLaw_law_575 (by decide) ?_
  refine lv_iadd hx hb dLaw_law_576 ?_
  refine lv_topi (nm_r (nI_add _ _) ?_)
  refine va_sld hx hb hX hbl hbA hS (i := nI (i + 1)) (vp_in_nI (show i + 1 < L by omega) (by omega)) dLaw_law_577 ?_
  refine lv_topi (nm_r (show xs (nI (i + 1)).toNatClampNeg = xs (i + 1) from congrArg xs (nI_clamp (by omega))) ?_)
  have hPc := (blk_P hP).2
  have hDc := (blk_D hD).2.1
  refine kx_iR (va_runV (As := [.int (xs (i + 1))]) (rest := [.int (aChosen n S x (xs (i + 1)))]) ⟨hx, hb, hml, hown, hts⟩ ((m_chosen l D cI cZ qm n S P x (xs (i + 1)) hn1 hn5 hS1 hS4 hP5 hP64 hIn) H.size) (cwV 1 hts (gV wd598 wd599 wd600 wd7 wd601) rfl rfl rfl (by decide +kernel) ⟨Nat.le_of_ble_eq_true rfl, Nat.le_of_ble_eq_true rfl⟩) ⟨fb_PW, va_recv (q0 := 0) (ci := 5) hK hPc rfl rfl, pre_PW hK hPc hDc hZ⟩ rfl rfl hl.1 rfl (lv_room (Nat.le_of_ble_eq_true rfl)) dLaw_law_578 ⟨Nat.le_of_ble_eq_true rfl, Nat.le_of_ble_eq_true rfl⟩) hP hD hS hA (fun r w1 H locs hw hP hD hS => ?_)
  obtain ⟨rfl, rfl⟩ := hw
  refine lv_icmp_eq (tgt := 656) hx hb dLaw_law_581 (by decide) (fun _ => ?_) (fun h9 => absurd rfl h9)
  exact kk x H locs (hIn) hP hD hS
set_option maxRecDepth 100000 in
set_option maxHeartbeats 2000000 in
theorem lawk_14 {p : Program} {e : Env} {s : State} {m : MethodId} {below : List Frame} {meth : Method} {c : Code} (l : Launch) {b L : Nat} {xs : Nat → Int32} (hL : L ≤ 2563) (hx : p.tables.exec = Jvm.exec) (hb : c.code = code) (hml : c.maxLocals = 4) (hown : s.vm.findClass "DecreePoolLaw" = some m.cls) (hts : ∀ w ∈ wsLaw0, w.before #[Value.ref b] s = true) (hX : va_X b L xs s s.heap) (hbl : b < s.heap.size) (D : va_G) (cI cZ : ClassId) (hK : va_K D vwCl [(cI, .int), (cZ, .boolean)] s) (hZ : NZ s) (q qm : Nat → Nat) (n S P : Nat) (hn1 : 1 ≤ n) (hn5 : n ≤ 5) (hS1 : 1 ≤ S) (hS4 : S ≤ 4) (hP5 : 5 ≤ P) (hP64 : P ≤ 64) (A : Nat → Prop) (hA : ∀ z : Nat, s.heap.size ≤ z → A z) (hbA : ¬ A b) {Q : State → Prop} (i : Nat) (x : St) (ls : Array Slot) (H : Heap) (locs : List Loc) (hi5 : i + 5 ≤ L) (hIn : Inv n S x) (hl : lv_has ls 4 [(3, .int (nI i)), (2, .ref (qm 0)), (1, .ref (q 0)), (0, .ref b)]) (hP : va_P D vwCl (wX q cI n S P x ++ wM qm cI cZ n S P x) H) (hD : va_D A (wX q cI n S P x ++ wM qm cI cZ n S P x)) (hS : va_S A s.heap H locs)
    (kk : ∀ (y : St) (H : Heap) (locs : List Loc), Inv n S y → va_P D vwCl (wX q cI n S P y ++ wM qm cI cZ n S P y) H → va_D A (wX q cI n S P y ++ wM qm cI cZ n S P y) → va_S A s.heap H locs → W p l e room_1 s m #[Value.ref b] below meth c H locs 37 1632 Q (F0 m 656 ls [])) : W p l e room_1 s m #[Value.ref b] below meth c H locs 37 1632 Q (F0 m 586 ls []) := by
  refine lv_aload_n hx hb dLaw_law_586 rfl (lv_at hl 2 rfl) ?_
  refine lv_aload_n hx hb dLaw_law_587 rfl (lv_at hl 3 rfl) ?_
  refine lv_iload_n hx hb dLaw_law_588 rfl (lv_at hl 0 rfl) ?_
  refine lv_iconst (v := nI 1) hx hb dLaw_law_589 (by decide) ?_
  refine lv_iadd hx hb dLaw_law_590 ?_
  refine lv_topi (nm_r (nI_add _ _) ?_)
  refine va_sld hx hb hX hbl hbA hS (i := nI (i + 1)) (vp_in_nI (show i + 1 < L by omega) (by omega)) dLaw_law_591 ?_
  refine lv_topi (nm_r (show xs (nI (i + 1)).toNatClampNeg = xs (i + 1) from congrArg xs (nI_clamp (by omega))) ?_)
  have hPc := (blk_P hP).1
  have hDc := (blk_D hD).1
  refine kx_iL (va_runV (As := [.int (xs (i + 1))]) (rest := []) ⟨hx, hb, hml, hown, hts⟩ ((c_pfx l D cI cZ q n S P x (xs (i + 1)) hn1 hn5 hS1 hS4 hP5 hP64) H.size) (cwV 1 hts (gV wd376 wd377 wd378 wd1 wd379) rfl rfl rfl (by decide +kernel) ⟨Nat.le_of_ble_eq_true rfl, Nat.le_of_ble_eq_true rfl⟩) ⟨fb_PW, va_recv (q0 := 0) (ci := 0) hK hPc rfl rfl, pre_PW hK hPc hDc hZ⟩ rfl rfl hl.1 rfl (lv_room (Nat.le_of_ble_eq_true rfl)) dLaw_law_592 ⟨Nat.le_of_ble_eq_true rfl, Nat.le_of_ble_eq_true rfl⟩) hP hD hS hA (fun r w1 H locs hw hP hD hS => ?_)
  obtain ⟨rfl, rfl⟩ := hw
  refine lv_aload_n hx hb dLaw_law_595 rfl (lv_at hl 1 rfl) ?_
  refine lv_aload_n hx hb dLaw_law_596 rfl (lv_at hl 3 rfl) ?_
  refine lv_iload_n hx hb dLaw_law_597 rfl (lv_at hl 0 rfl) ?_
  refine lv_iconst (v := nI 1) hx hb dLaw_law_598 (by decide) ?_
  refine lv_iadd hx hb dLaw_law_599 ?_
  refine lv_topi (nm_r (nI_add _ _) ?_)
  refine va_sld hx hb hX hbl hbA hS (i := nI (i + 1)) (vp_in_nI (show i + 1 < L by omega) (by omega)) dLaw_law_600 ?_
  refine lv_topi (nm_r (show xs (nI (i + 1)).toNatClampNeg = xs (i + 1) from congrArg xs (nI_clamp (by omega))) ?_)
  have hPc := (blk_P hP).2
  have hDc := (blk_D hD).2.1
  refine kx_iR (va_runV (As := [.int (xs (i + 1))]) (rest := [.int (aPfx n S x (xs (i + 1)))]) ⟨hx, hb, hml, hown, hts⟩ ((m_pfx l D cI cZ qm n S P x (xs (i + 1)) hn1 hn5 hS1 hS4 hP5 hP64 hIn.2.2.1) H.size) (cwV 1 hts (gV wd602 wd603 wd604 wd7 wd605) rfl rfl rfl (by decide +kernel) ⟨Nat.le_of_ble_eq_true rfl, Nat.le_of_ble_eq_true rfl⟩) ⟨fb_PW, va_recv (q0 := 0) (ci := 5) hK hPc rfl rfl, pre_PW hK hPc hDc hZ⟩ rfl rfl hl.1 rfl (lv_room (Nat.le_of_ble_eq_true rfl)) dLaw_law_601 ⟨Nat.le_of_ble_eq_true rfl, Nat.le_of_ble_eq_true rfl⟩) hP hD hS hA (fun r w1 H locs hw hP hD hS => ?_)
  obtain ⟨rfl, rfl⟩ := hw
  refine lv_icmp_eq (tgt := 656) hx hb dLaw_law_604 (by decide) (fun _ => ?_) (fun h9 => absurd rfl h9)
  exact kk x H locs (hIn) hP hD hS
set_option maxRecDepth 100000 in
set_option maxHeartbeats 2000000 in
theorem lawk_15 {p : Program} {e : Env} {s : State} {m : MethodId} {below : List Frame} {meth : Method} {c : Code} (l : Launch) {b L : Nat} {xs : Nat → Int32} (hL : L ≤ 2563) (hx : p.tables.exec = Jvm.exec) (hb : c.code = code) (hml : c.maxLocals = 4) (hown : s.vm.findClass "DecreePoolLaw" = some m.cls) (hts : ∀ w ∈ wsLaw0, w.before #[Value.ref b] s = true) (hX : va_X b L xs s s.heap) (hbl : b < s.heap.size) (D : va_G) (cI cZ : ClassId) (hK : va_K D vwCl [(cI, .int), (cZ, .boolean)] s) (hZ : NZ s) (q qm : Nat → Nat) (n S P : Nat) (hn1 : 1 ≤ n) (hn5 : n ≤ 5) (hS1 : 1 ≤ S) (hS4 : S ≤ 4) (hP5 : 5 ≤ P) (hP64 : P ≤ 64) (A : Nat → Prop) (hA : ∀ z : Nat, s.heap.size ≤ z → A z) (hbA : ¬ A b) {Q : State → Prop} (i : Nat) (x : St) (ls : Array Slot) (H : Heap) (locs : List Loc) (hi5 : i + 5 ≤ L) (hIn : Inv n S x) (hl : lv_has ls 4 [(3, .int (nI i)), (2, .ref (qm 0)), (1, .ref (q 0)), (0, .ref b)]) (hP : va_P D vwCl (wX q cI n S P x ++ wM qm cI cZ n S P x) H) (hD : va_D A (wX q cI n S P x ++ wM qm cI cZ n S P x)) (hS : va_S A s.heap H locs)
    (kk : ∀ (y : St) (H : Heap) (locs : List Loc), Inv n S y → va_P D vwCl (wX q cI n S P y ++ wM qm cI cZ n S P y) H → va_D A (wX q cI n S P y ++ wM qm cI cZ n S P y) → va_S A s.heap H locs → W p l e room_1 s m #[Value.ref b] below meth c H locs 37 1632 Q (F0 m 656 ls [])) : W p l e room_1 s m #[Value.ref b] below meth c H locs 37 1632 Q (F0 m 609 ls []) := by
  refine lv_aload_n hx hb dLaw_law_609 rfl (lv_at hl 2 rfl) ?_
  refine lv_aload_n hx hb dLaw_law_610 rfl (lv_at hl 3 rfl) ?_
  refine lv_iload_n hx hb dLaw_law_611 rfl (lv_at hl 0 rfl) ?_
  refine lv_iconst (v := nI 1) hx hb dLaw_law_612 (by decide) ?_
  refine lv_iadd hx hb dLaw_law_613 ?_
  refine lv_topi (nm_r (nI_add _ _) ?_)
  refine va_sld hx hb hX hbl hbA hS (i := nI (i + 1)) (vp_in_nI (show i + 1 < L by omega) (by omega)) dLaw_law_614 ?_
  refine lv_topi (nm_r (show xs (nI (i + 1)).toNatClampNeg = xs (i + 1) from congrArg xs (nI_clamp (by omega))) ?_)
  have hPc := (blk_P hP).1
  have hDc := (blk_D hD).1
  refine kx_lL (va_runV (As := [.int (xs (i + 1))]) (rest := []) ⟨hx, hb, hml, hown, hts⟩ ((c_applied l D cI cZ q n S P x (xs (i + 1)) hn1 hn5 hS1 hS4 hP5 hP64 hIn.2.2.1) H.size) (cwV 1 hts (gV wd384 wd385 wd386 wd1 wd387) rfl rfl rfl (by decide +kernel) ⟨Nat.le_of_ble_eq_true rfl, Nat.le_of_ble_eq_true rfl⟩) ⟨fb_PW, va_recv (q0 := 0) (ci := 0) hK hPc rfl rfl, pre_PW hK hPc hDc hZ⟩ rfl rfl hl.1 rfl (lv_room (Nat.le_of_ble_eq_true rfl)) dLaw_law_615 ⟨Nat.le_of_ble_eq_true rfl, Nat.le_of_ble_eq_true rfl⟩) hP hD hS hA (fun r w1 H locs hw hP hD hS => ?_)
  obtain ⟨rfl, rfl⟩ := hw
  refine lv_aload_n hx hb dLaw_law_618 rfl (lv_at hl 1 rfl) ?_
  refine lv_aload_n hx hb dLaw_law_619 rfl (lv_at hl 3 rfl) ?_
  refine lv_iload_n hx hb dLaw_law_620 rfl (lv_at hl 0 rfl) ?_
  refine lv_iconst (v := nI 1) hx hb dLaw_law_621 (by decide) ?_
  refine lv_iadd hx hb dLaw_law_622 ?_
  refine lv_topi (nm_r (nI_add _ _) ?_)
  refine va_sld hx hb hX hbl hbA hS (i := nI (i + 1)) (vp_in_nI (show i + 1 < L by omega) (by omega)) dLaw_law_623 ?_
  refine lv_topi (nm_r (show xs (nI (i + 1)).toNatClampNeg = xs (i + 1) from congrArg xs (nI_clamp (by omega))) ?_)
  have hPc := (blk_P hP).2
  have hDc := (blk_D hD).2.1
  refine kx_lR (va_runV (As := [.int (xs (i + 1))]) (rest := [.long (aApp n S x (xs (i + 1)))]) ⟨hx, hb, hml, hown, hts⟩ ((m_applied l D cI cZ qm n S P x (xs (i + 1)) hn1 hn5 hS1 hS4 hP5 hP64 hIn.2.2.1) H.size) (cwV 1 hts (gV wd606 wd607 wd608 wd7 wd609) rfl rfl rfl (by decide +kernel) ⟨Nat.le_of_ble_eq_true rfl, Nat.le_of_ble_eq_true rfl⟩) ⟨fb_PW, va_recv (q0 := 0) (ci := 5) hK hPc rfl rfl, pre_PW hK hPc hDc hZ⟩ rfl rfl hl.1 rfl (lv_room (Nat.le_of_ble_eq_true rfl)) dLaw_law_624 ⟨Nat.le_of_ble_eq_true rfl, Nat.le_of_ble_eq_true rfl⟩) hP hD hS hA (fun r w1 H locs hw hP hD hS => ?_)
  obtain ⟨rfl, rfl⟩ := hw
  refine W.lcmp hx hb dLaw_law_627 ?_
  refine lv_if_eq (tgt := 656) hx hb dLaw_law_628 (by decide) (fun _ => ?_) (fun h9 => absurd lgs h9)
  exact kk x H locs (hIn) hP hD hS
set_option maxRecDepth 100000 in
set_option maxHeartbeats 2000000 in
theorem lawk_16 {p : Program} {e : Env} {s : State} {m : MethodId} {below : List Frame} {meth : Method} {c : Code} (l : Launch) {b L : Nat} {xs : Nat → Int32} (hL : L ≤ 2563) (hx : p.tables.exec = Jvm.exec) (hb : c.code = code) (hml : c.maxLocals = 4) (hown : s.vm.findClass "DecreePoolLaw" = some m.cls) (hts : ∀ w ∈ wsLaw0, w.before #[Value.ref b] s = true) (hX : va_X b L xs s s.heap) (hbl : b < s.heap.size) (D : va_G) (cI cZ : ClassId) (hK : va_K D vwCl [(cI, .int), (cZ, .boolean)] s) (hZ : NZ s) (q qm : Nat → Nat) (n S P : Nat) (hn1 : 1 ≤ n) (hn5 : n ≤ 5) (hS1 : 1 ≤ S) (hS4 : S ≤ 4) (hP5 : 5 ≤ P) (hP64 : P ≤ 64) (A : Nat → Prop) (hA : ∀ z : Nat, s.heap.size ≤ z → A z) (hbA : ¬ A b) {Q : State → Prop} (i : Nat) (x : St) (ls : Array Slot) (H : Heap) (locs : List Loc) (hi5 : i + 5 ≤ L) (hIn : Inv n S x) (hl : lv_has ls 4 [(3, .int (nI i)), (2, .ref (qm 0)), (1, .ref (q 0)), (0, .ref b)]) (hP : va_P D vwCl (wX q cI n S P x ++ wM qm cI cZ n S P x) H) (hD : va_D A (wX q cI n S P x ++ wM qm cI cZ n S P x)) (hS : va_S A s.heap H locs)
    (kk : ∀ (y : St) (H : Heap) (locs : List Loc), Inv n S y → va_P D vwCl (wX q cI n S P y ++ wM qm cI cZ n S P y) H → va_D A (wX q cI n S P y ++ wM qm cI cZ n S P y) → va_S A s.heap H locs → W p l e room_1 s m #[Value.ref b] below meth c H locs 37 1632 Q (F0 m 656 ls [])) : W p l e room_1 s m #[Value.ref b] below meth c H locs 37 1632 Q (F0 m 633 ls []) := by
  refine lv_aload_n hx hb dLaw_law_633 rfl (lv_at hl 2 rfl) ?_
  refine lv_aload_n hx hb dLaw_law_634 rfl (lv_at hl 3 rfl) ?_
  refine lv_iload_n hx hb dLaw_law_635 rfl (lv_at hl 0 rfl) ?_
  refine lv_iconst (v := nI 1) hx hb dLaw_law_636 (by decide) ?_
  refine lv_iadd hx hb dLaw_law_637 ?_
  refine lv_topi (nm_r (nI_add _ _) ?_)
  refine va_sld hx hb hX hbl hbA hS (i := nI (i + 1)) (vp_in_nI (show i + 1 < L by omega) (by omega)) dLaw_law_638 ?_
  refine lv_topi (nm_r (show xs (nI (i + 1)).toNatClampNeg = xs (i + 1) from congrArg xs (nI_clamp (by omega))) ?_)
  have hPc := (blk_P hP).1
  have hDc := (blk_D hD).1
  refine kx_iL (va_runV (As := [.int (xs (i + 1))]) (rest := []) ⟨hx, hb, hml, hown, hts⟩ ((c_count l D cI cZ q n S P x (xs (i + 1)) hn1 hn5 hS1 hS4 hP5 hP64) H.size) (cwV 1 hts (gV wd388 wd389 wd390 wd1 wd391) rfl rfl rfl (by decide +kernel) ⟨Nat.le_of_ble_eq_true rfl, Nat.le_of_ble_eq_true rfl⟩) ⟨fb_PW, va_recv (q0 := 0) (ci := 0) hK hPc rfl rfl, pre_PW hK hPc hDc hZ⟩ rfl rfl hl.1 rfl (lv_room (Nat.le_of_ble_eq_true rfl)) dLaw_law_639 ⟨Nat.le_of_ble_eq_true rfl, Nat.le_of_ble_eq_true rfl⟩) hP hD hS hA (fun r w1 H locs hw hP hD hS => ?_)
  obtain ⟨rfl, rfl⟩ := hw
  refine lv_aload_n hx hb dLaw_law_642 rfl (lv_at hl 1 rfl) ?_
  refine lv_aload_n hx hb dLaw_law_643 rfl (lv_at hl 3 rfl) ?_
  refine lv_iload_n hx hb dLaw_law_644 rfl (lv_at hl 0 rfl) ?_
  refine lv_iconst (v := nI 1) hx hb dLaw_law_645 (by decide) ?_
  refine lv_iadd hx hb dLaw_law_646 ?_
  refine lv_topi (nm_r (nI_add _ _) ?_)
  refine va_sld hx hb hX hbl hbA hS (i := nI (i + 1)) (vp_in_nI (show i + 1 < L by omega) (by omega)) dLaw_law_647 ?_
  refine lv_topi (nm_r (show xs (nI (i + 1)).toNatClampNeg = xs (i + 1) from congrArg xs (nI_clamp (by omega))) ?_)
  have hPc := (blk_P hP).2
  have hDc := (blk_D hD).2.1
  refine kx_iR (va_runV (As := [.int (xs (i + 1))]) (rest := [.int (aCount n S P x (xs (i + 1)))]) ⟨hx, hb, hml, hown, hts⟩ ((m_count l D cI cZ qm n S P x (xs (i + 1)) hn1 hn5 hS1 hS4 hP5 hP64) H.size) (cwV 1 hts (gV wd612 wd613 wd614 wd7 wd615) rfl rfl rfl (by decide +kernel) ⟨Nat.le_of_ble_eq_true rfl, Nat.le_of_ble_eq_true rfl⟩) ⟨fb_PW, va_recv (q0 := 0) (ci := 5) hK hPc rfl rfl, pre_PW hK hPc hDc hZ⟩ rfl rfl hl.1 rfl (lv_room (Nat.le_of_ble_eq_true rfl)) dLaw_law_648 ⟨Nat.le_of_ble_eq_true rfl, Nat.le_of_ble_eq_true rfl⟩) hP hD hS hA (fun r w1 H locs hw hP hD hS => ?_)
  obtain ⟨rfl, rfl⟩ := hw
  refine lv_icmp_eq (tgt := 656) hx hb dLaw_law_651 (by decide) (fun _ => ?_) (fun h9 => absurd rfl h9)
  exact kk x H locs (hIn) hP hD hS
