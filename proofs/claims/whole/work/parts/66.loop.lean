set_option maxRecDepth 100000 in
set_option maxHeartbeats 4000000 in
theorem law_loop {p : Program} {e : Env} {s : State} {m : MethodId} {below : List Frame} {meth : Method} {c : Code} (l : Launch) {b L : Nat} {xs : Nat → Int32} (hL : L ≤ 2563) (hx : p.tables.exec = Jvm.exec) (hb : c.code = code) (hml : c.maxLocals = 4) (hown : s.vm.findClass "DecreePoolLaw" = some m.cls) (hts : ∀ w ∈ wsLaw0, w.before #[Value.ref b] s = true) (hX : va_X b L xs s s.heap) (hbl : b < s.heap.size) (D : va_G) (cI cZ : ClassId) (hK : va_K D vwCl [(cI, .int), (cZ, .boolean)] s) (hZ : NZ s) (q qm : Nat → Nat) (n S P : Nat) (hn1 : 1 ≤ n) (hn5 : n ≤ 5) (hS1 : 1 ≤ S) (hS4 : S ≤ 4) (hP5 : 5 ≤ P) (hP64 : P ≤ 64) (A : Nat → Prop) (hA : ∀ z : Nat, s.heap.size ≤ z → A z) (hbA : ¬ A b) (hr : meth.sig.returnType = ret) (hlk : meth.locks = false) (hAe : A = fun z => s.heap.size ≤ z) :
    ∀ (d i : Nat) (x : St) (ls : Array Slot) (H : Heap) (locs : List Loc), L + 1 ≤ i + d → i ≤ 2563 → Inv n S x → lv_has ls 4 [(3, .int (nI i)), (2, .ref (qm 0)), (1, .ref (q 0)), (0, .ref b)] → va_P D vwCl (wX q cI n S P x ++ wM qm cI cZ n S P x) H → va_D A (wX q cI n S P x ++ wM qm cI cZ n S P x) → va_S A s.heap H locs → W p l e room_1 s m #[Value.ref b] below meth c H locs 37 1632 (lw_Z below #[Value.ref b] s) (F0 m 48 ls []) := by
  intro d
  induction d with
  | zero =>
    intro i x ls H locs hid hib hIn hl hP hD hS
    refine lv_iload_n hx hb dLaw_law_48 rfl (lv_at hl 0 rfl) ?_
    refine lv_aload_n hx hb dLaw_law_49 rfl (lv_at hl 3 rfl) ?_
    refine va_slen hx hb hX hbl hbA hS dLaw_law_50 ?_
    refine lv_topi (nm_r (show Int32.ofNat L = nI L from rfl) ?_)
    refine lv_iconst (v := nI 5) hx hb dLaw_law_51 (by decide) ?_
    refine lv_isub hx hb dLaw_law_52 ?_
    refine lv_icmp_gt (tgt := 662) hx hb dLaw_law_53 (by decide) (fun c53 => ?_) (fun c53 => ?_)
    · refine lv_iconst (v := 1) hx hb dLaw_law_662 (by decide) ?_
      refine va_forget (fun z9 hz9 => by have h9 := hS.2.2 z9 hz9; rw [hAe] at h9; exact h9) ?_
      refine W.widen (k := 600000) (n := 7302250) (by decide) (by decide) ?_
      exact lw_ret hx hb hr hlk dLaw_law_663
    · exact absurd (lawc (by omega) (by omega) c53) (by omega)
  | succ d ih =>
    intro i x ls H locs hid hib hIn hl hP hD hS
    refine lv_iload_n hx hb dLaw_law_48 rfl (lv_at hl 0 rfl) ?_
    refine lv_aload_n hx hb dLaw_law_49 rfl (lv_at hl 3 rfl) ?_
    refine va_slen hx hb hX hbl hbA hS dLaw_law_50 ?_
    refine lv_topi (nm_r (show Int32.ofNat L = nI L from rfl) ?_)
    refine lv_iconst (v := nI 5) hx hb dLaw_law_51 (by decide) ?_
    refine lv_isub hx hb dLaw_law_52 ?_
    refine lv_icmp_gt (tgt := 662) hx hb dLaw_law_53 (by decide) (fun c53 => ?_) (fun c53 => ?_)
    · refine lv_iconst (v := 1) hx hb dLaw_law_662 (by decide) ?_
      refine va_forget (fun z9 hz9 => by have h9 := hS.2.2 z9 hz9; rw [hAe] at h9; exact h9) ?_
      refine W.widen (k := 600000) (n := 7302250) (by decide) (by decide) ?_
      exact lw_ret hx hb hr hlk dLaw_law_663
    · have hi5 : i + 5 ≤ L := lawc (by omega) (by omega) c53
      have k656 : ∀ (y : St) (H : Heap) (locs : List Loc), Inv n S y → va_P D vwCl (wX q cI n S P y ++ wM qm cI cZ n S P y) H → va_D A (wX q cI n S P y ++ wM qm cI cZ n S P y) → va_S A s.heap H locs → W p l e room_1 s m #[Value.ref b] below meth c H locs 37 1632 (lw_Z below #[Value.ref b] s) (F0 m 656 ls []) := by
        intro y H locs hIn hP hD hS
        refine lv_iinc (k := 0) (v := nI (i + 5)) hx hb dLaw_law_656 hl rfl (nI_add i 5) (by decide) rfl (fun ls hl => ?_)
        refine lv_goto (tgt := 48) hx hb dLaw_law_659 (by decide) ?_
        exact ih (i + 5) y ls H locs (by omega) (by omega) hIn hl hP hD hS
      refine lv_aload_n hx hb dLaw_law_56 rfl (lv_at hl 3 rfl) ?_
      refine lv_iload_n hx hb dLaw_law_57 rfl (lv_at hl 0 rfl) ?_
      refine va_sld hx hb hX hbl hbA hS (i := nI i) (vp_in_nI (show i < L by omega) (by omega)) dLaw_law_58 ?_
      refine lv_topi (nm_r (show xs (nI i).toNatClampNeg = xs i from congrArg xs (nI_clamp (by omega))) ?_)
      refine lv_bipush (v := nI 31) hx hb dLaw_law_59 (by decide) ?_
      obtain ⟨cs, hcs, hce⟩ := pk_andE (xs i) (m := nI 31) 5 (by decide)
      refine lv_iand hx hb dLaw_law_61 ?_
      refine lv_topi (nm_r (hce) ?_)
      by_cases k62_0 : nI cs = nI 0
      · refine lv_topi (nm_r (k62_0) ?_)
        refine lv_tableIn (tgt := 144) hx hb dLaw_law_62 (by decide) (by decide) rfl (by decide) ?_
        exact lawk_0 l hL hx hb hml hown hts hX hbl D cI cZ hK hZ q qm n S P hn1 hn5 hS1 hS4 hP5 hP64 A hA hbA i x ls H locs hi5 hIn hl hP hD hS k656
      by_cases k62_1 : nI cs = nI 1
      · refine lv_topi (nm_r (k62_1) ?_)
        refine lv_tableIn (tgt := 197) hx hb dLaw_law_62 (by decide) (by decide) rfl (by decide) ?_
        exact lawk_1 l hL hx hb hml hown hts hX hbl D cI cZ hK hZ q qm n S P hn1 hn5 hS1 hS4 hP5 hP64 A hA hbA i x ls H locs hi5 hIn hl hP hD hS k656
      by_cases k62_2 : nI cs = nI 2
      · refine lv_topi (nm_r (k62_2) ?_)
        refine lv_tableIn (tgt := 220) hx hb dLaw_law_62 (by decide) (by decide) rfl (by decide) ?_
        exact lawk_2 l hL hx hb hml hown hts hX hbl D cI cZ hK hZ q qm n S P hn1 hn5 hS1 hS4 hP5 hP64 A hA hbA i x ls H locs hi5 hIn hl hP hD hS k656
      by_cases k62_3 : nI cs = nI 3
      · refine lv_topi (nm_r (k62_3) ?_)
        refine lv_tableIn (tgt := 243) hx hb dLaw_law_62 (by decide) (by decide) rfl (by decide) ?_
        exact lawk_3 l hL hx hb hml hown hts hX hbl D cI cZ hK hZ q qm n S P hn1 hn5 hS1 hS4 hP5 hP64 A hA hbA i x ls H locs hi5 hIn hl hP hD hS k656
      by_cases k62_4 : nI cs = nI 4
      · refine lv_topi (nm_r (k62_4) ?_)
        refine lv_tableIn (tgt := 266) hx hb dLaw_law_62 (by decide) (by decide) rfl (by decide) ?_
        exact lawk_4 l hL hx hb hml hown hts hX hbl D cI cZ hK hZ q qm n S P hn1 hn5 hS1 hS4 hP5 hP64 A hA hbA i x ls H locs hi5 hIn hl hP hD hS k656
      by_cases k62_5 : nI cs = nI 5
      · refine lv_topi (nm_r (k62_5) ?_)
        refine lv_tableIn (tgt := 289) hx hb dLaw_law_62 (by decide) (by decide) rfl (by decide) ?_
        exact lawk_5 l hL hx hb hml hown hts hX hbl D cI cZ hK hZ q qm n S P hn1 hn5 hS1 hS4 hP5 hP64 A hA hbA i x ls H locs hi5 hIn hl hP hD hS k656
      by_cases k62_6 : nI cs = nI 6
      · refine lv_topi (nm_r (k62_6) ?_)
        refine lv_tableIn (tgt := 312) hx hb dLaw_law_62 (by decide) (by decide) rfl (by decide) ?_
        exact lawk_6 l hL hx hb hml hown hts hX hbl D cI cZ hK hZ q qm n S P hn1 hn5 hS1 hS4 hP5 hP64 A hA hbA i x ls H locs hi5 hIn hl hP hD hS k656
      by_cases k62_7 : nI cs = nI 7
      · refine lv_topi (nm_r (k62_7) ?_)
        refine lv_tableIn (tgt := 335) hx hb dLaw_law_62 (by decide) (by decide) rfl (by decide) ?_
        exact lawk_7 l hL hx hb hml hown hts hX hbl D cI cZ hK hZ q qm n S P hn1 hn5 hS1 hS4 hP5 hP64 A hA hbA i x ls H locs hi5 hIn hl hP hD hS k656
      by_cases k62_8 : nI cs = nI 8
      · refine lv_topi (nm_r (k62_8) ?_)
        refine lv_tableIn (tgt := 368) hx hb dLaw_law_62 (by decide) (by decide) rfl (by decide) ?_
        exact lawk_8 l hL hx hb hml hown hts hX hbl D cI cZ hK hZ q qm n S P hn1 hn5 hS1 hS4 hP5 hP64 A hA hbA i x ls H locs hi5 hIn hl hP hD hS k656
      by_cases k62_9 : nI cs = nI 9
      · refine lv_topi (nm_r (k62_9) ?_)
        refine lv_tableIn (tgt := 401) hx hb dLaw_law_62 (by decide) (by decide) rfl (by decide) ?_
        exact lawk_9 l hL hx hb hml hown hts hX hbl D cI cZ hK hZ q qm n S P hn1 hn5 hS1 hS4 hP5 hP64 A hA hbA i x ls H locs hi5 hIn hl hP hD hS k656
      by_cases k62_10 : nI cs = nI 10
      · refine lv_topi (nm_r (k62_10) ?_)
        refine lv_tableIn (tgt := 444) hx hb dLaw_law_62 (by decide) (by decide) rfl (by decide) ?_
        exact lawk_10 l hL hx hb hml hown hts hX hbl D cI cZ hK hZ q qm n S P hn1 hn5 hS1 hS4 hP5 hP64 A hA hbA i x ls H locs hi5 hIn hl hP hD hS k656
      by_cases k62_11 : nI cs = nI 11
      · refine lv_topi (nm_r (k62_11) ?_)
        refine lv_tableIn (tgt := 487) hx hb dLaw_law_62 (by decide) (by decide) rfl (by decide) ?_
        exact lawk_11 l hL hx hb hml hown hts hX hbl D cI cZ hK hZ q qm n S P hn1 hn5 hS1 hS4 hP5 hP64 A hA hbA i x ls H locs hi5 hIn hl hP hD hS k656
      by_cases k62_12 : nI cs = nI 12
      · refine lv_topi (nm_r (k62_12) ?_)
        refine lv_tableIn (tgt := 530) hx hb dLaw_law_62 (by decide) (by decide) rfl (by decide) ?_
        exact lawk_12 l hL hx hb hml hown hts hX hbl D cI cZ hK hZ q qm n S P hn1 hn5 hS1 hS4 hP5 hP64 A hA hbA i x ls H locs hi5 hIn hl hP hD hS k656
      by_cases k62_13 : nI cs = nI 13
      · refine lv_topi (nm_r (k62_13) ?_)
        refine lv_tableIn (tgt := 563) hx hb dLaw_law_62 (by decide) (by decide) rfl (by decide) ?_
        exact lawk_13 l hL hx hb hml hown hts hX hbl D cI cZ hK hZ q qm n S P hn1 hn5 hS1 hS4 hP5 hP64 A hA hbA i x ls H locs hi5 hIn hl hP hD hS k656
      by_cases k62_14 : nI cs = nI 14
      · refine lv_topi (nm_r (k62_14) ?_)
        refine lv_tableIn (tgt := 586) hx hb dLaw_law_62 (by decide) (by decide) rfl (by decide) ?_
        exact lawk_14 l hL hx hb hml hown hts hX hbl D cI cZ hK hZ q qm n S P hn1 hn5 hS1 hS4 hP5 hP64 A hA hbA i x ls H locs hi5 hIn hl hP hD hS k656
      by_cases k62_15 : nI cs = nI 15
      · refine lv_topi (nm_r (k62_15) ?_)
        refine lv_tableIn (tgt := 609) hx hb dLaw_law_62 (by decide) (by decide) rfl (by decide) ?_
        exact lawk_15 l hL hx hb hml hown hts hX hbl D cI cZ hK hZ q qm n S P hn1 hn5 hS1 hS4 hP5 hP64 A hA hbA i x ls H locs hi5 hIn hl hP hD hS k656
      by_cases k62_16 : nI cs = nI 16
      · refine lv_topi (nm_r (k62_16) ?_)
        refine lv_tableIn (tgt := 633) hx hb dLaw_law_62 (by decide) (by decide) rfl (by decide) ?_
        exact lawk_16 l hL hx hb hml hown hts hX hbl D cI cZ hK hZ q qm n S P hn1 hn5 hS1 hS4 hP5 hP64 A hA hbA i x ls H locs hi5 hIn hl hP hD hS k656
      refine lv_tableOut (tgt := 656) hx hb dLaw_law_62 (tb_out 0 16 (by intro j h1 h2; rcases (show j = 0 ∨ j = 1 ∨ j = 2 ∨ j = 3 ∨ j = 4 ∨ j = 5 ∨ j = 6 ∨ j = 7 ∨ j = 8 ∨ j = 9 ∨ j = 10 ∨ j = 11 ∨ j = 12 ∨ j = 13 ∨ j = 14 ∨ j = 15 ∨ j = 16 by omega) with rfl | rfl | rfl | rfl | rfl | rfl | rfl | rfl | rfl | rfl | rfl | rfl | rfl | rfl | rfl | rfl | rfl <;> assumption)) (by decide) ?_
      exact k656 x H locs hIn hP hD hS
