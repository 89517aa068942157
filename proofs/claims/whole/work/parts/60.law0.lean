theorem dLaw_cell_0 : decode cLaw_cell 0 = .ok (.iload_n 1, 1) := by decide +kernel
theorem dLaw_cell_1 : decode cLaw_cell 1 = .ok (.aload_n 0, 1) := by decide +kernel
theorem dLaw_cell_2 : decode cLaw_cell 2 = .ok (.arraylength, 1) := by decide +kernel
theorem dLaw_cell_3 : decode cLaw_cell 3 = .ok (.if_icmp .ge 9, 3) := by decide +kernel
theorem dLaw_cell_6 : decode cLaw_cell 6 = .ok (.aload_n 0, 1) := by decide +kernel
theorem dLaw_cell_7 : decode cLaw_cell 7 = .ok (.iload_n 1, 1) := by decide +kernel
theorem dLaw_cell_8 : decode cLaw_cell 8 = .ok (.iaload, 1) := by decide +kernel
theorem dLaw_cell_9 : decode cLaw_cell 9 = .ok (.goto 4, 3) := by decide +kernel
theorem dLaw_cell_12 : decode cLaw_cell 12 = .ok (.iconst 0, 1) := by decide +kernel
theorem dLaw_cell_13 : decode cLaw_cell 13 = .ok (.ireturn, 1) := by decide +kernel
def cellv (xs : Nat → Int32) (L k : Nat) : Int32 := if k < L then xs k else 0
theorem lgs {x : Int64} : lg_cmp x x = 0 := by
  unfold lg_cmp
  rw [if_neg (Int64.lt_irrefl), if_pos rfl]
theorem lawc {L i : Nat} (hL : L < 2 ^ 30) (hi : i < 2 ^ 30) (h : ¬ nI L - nI 5 < nI i) : i + 5 ≤ L := by
  rw [Int32.lt_iff_toInt_lt, pk_sub_toInt hL (by decide), nI_toInt (by omega)] at h
  omega
theorem dN_r (v : Int32) : 1 ≤ dN v ∧ dN v ≤ 5 := by
  unfold dN
  by_cases h : nI 1 ≤ v ∧ v ≤ nI 5
  · rw [if_pos h]
    obtain ⟨j, h1, h2, rfl⟩ := rng (by decide) h (by decide)
    rw [show ix (nI j) = j from nI_clamp (by omega)]
    exact ⟨h1, h2⟩
  · rw [if_neg h]; decide
theorem dS_r (v : Int32) : 1 ≤ dS v ∧ dS v ≤ 4 := by
  unfold dS
  by_cases h : nI 1 ≤ v ∧ v ≤ nI 4
  · rw [if_pos h]
    obtain ⟨j, h1, h2, rfl⟩ := rng (by decide) h (by decide)
    rw [show ix (nI j) = j from nI_clamp (by omega)]
    exact ⟨h1, h2⟩
  · rw [if_neg h]; decide
theorem dP_r (v : Int32) : 5 ≤ dP v ∧ dP v ≤ 64 := by
  unfold dP
  by_cases h : nI 5 ≤ v ∧ v ≤ nI 64
  · rw [if_pos h]
    obtain ⟨j, h1, h2, rfl⟩ := rng (by decide) h (by decide)
    rw [show ix (nI j) = j from nI_clamp (by omega)]
    exact ⟨h1, h2⟩
  · rw [if_neg h]; decide
/-- what a call of cell needs of the state -/
abbrev PC (sz b L : Nat) (xs : Nat → Int32) (U : State) : Prop := U.heap.size = sz ∧ va_X b L xs U U.heap ∧ b < sz
theorem fb_PC {av : List Value} {sz b L : Nat} {xs : Nat → Int32} : FrameBlind (va_Pc av (PC sz b L xs)) :=
  fun _ U _ _ q => ⟨q.1, q.2.1, va_X.moved (u := U) (Vm.Alike.refl U.vm) q.2.2.1, q.2.2.2⟩
set_option maxRecDepth 100000 in
set_option maxHeartbeats 4000000 in
theorem c_cell (l : Launch) (b L : Nat) (xs : Nat → Int32) (k : Nat) (hL : L ≤ 2563) (hk : k < 10) (sz : Nat) : Met l yLaw_cell wsLaw_cell ({ frames := 0, cells := 0, slots := 0, locals := 0 }) (va_Pc [.ref b, .int (nI k)] (PC sz b L xs)) (va_Qi (fun r (_ : Unit) => r = cellv xs L k) (fun _ _ => True) (va_A [] sz)) 0 0 (va_A [] sz) := by
  refine Met.ofW (cc := cLaw_cell) (maxL := 2) (ret := (some .int)) (by decide) rfl ?_
  intro p e s m args below meth c s₁ B hml hv
  obtain ⟨rfl, hsz, hX, hbl⟩ := hv
  have hx := B.exec
  have hb := B.bytes
  have hr := B.returns
  have hlocks := B.notSynchronized
  subst hsz
  generalize hAe : va_A [] s.heap.size = A
  have hbA : ¬ A b := by
    rw [← hAe]
    rintro (⟨k9, e9, h9⟩ | h9)
    · simp at h9
    · omega
  have hS : va_S A s.heap s.heap [] := va_S.rf
  have hl := lv_entry ([.ref b, .int (nI k)]) (n := 2) (Nat.le_of_ble_eq_true rfl)
  rw [lg_entry_eq]
  generalize (lg_sl ([.ref b, .int (nI k)]) ++ List.replicate (2 - (lg_sl ([.ref b, .int (nI k)])).length) Slot.unset).toArray = ls at hl ⊢
  have hl : lv_has ls 2 [(0, .ref b), (1, .int (nI k))] := hl
  refine lv_iload_n hx hb dLaw_cell_0 rfl (lv_at hl 1 rfl) ?_
  refine lv_aload_n hx hb dLaw_cell_1 rfl (lv_at hl 0 rfl) ?_
  refine va_slen hx hb hX hbl hbA hS dLaw_cell_2 ?_
  refine lv_topi (nm_r (show Int32.ofNat L = nI L from rfl) ?_)
  refine lv_icmp_ge (tgt := 12) hx hb dLaw_cell_3 (by decide) (fun c3 => ?_) (fun c3 => ?_)
  · refine lv_iconst (v := nI 0) hx hb dLaw_cell_12 (by decide) ?_
    exact W.iret (v := nI 0) hx hb hr (fun t9 ht9 hW9 => ⟨⟨nI 0, (), rfl, by unfold cellv; rw [if_neg (fun h => absurd c3 (nI_ge h (by omega)))]; rfl, trivial⟩, hS.F ht9⟩) hS.2.2 dLaw_cell_13
  · have hkL : k < L := Nat.lt_of_not_le (fun q => c3 (nI_le q (by omega)))
    refine lv_aload_n hx hb dLaw_cell_6 rfl (lv_at hl 0 rfl) ?_
    refine lv_iload_n hx hb dLaw_cell_7 rfl (lv_at hl 1 rfl) ?_
    refine va_sld hx hb hX hbl hbA hS (i := nI k) (vp_in_nI hkL (by omega)) dLaw_cell_8 ?_
    refine lv_topi (nm_r (show xs (nI k).toNatClampNeg = xs k from congrArg xs (nI_clamp (by omega))) ?_)
    refine lv_goto (tgt := 13) hx hb dLaw_cell_9 (by decide) ?_
    exact W.iret (v := xs k) hx hb hr (fun t9 ht9 hW9 => ⟨⟨xs k, (), rfl, by unfold cellv; rw [if_pos hkL], trivial⟩, hS.F ht9⟩) hS.2.2 dLaw_cell_13
section KS
variable {p : Program} {l : Launch} {e : Env} {R : Room} {s : State} {m : MethodId} {args : Array Value} {below : List Frame} {meth : Method} {c : Code} {H H0 : Heap} {locs : List Loc} {cells slots : Nat} {Q : State → Prop} {A0 : Nat → Prop} {D : va_G}
variable {rest : List Value} {w : va_W} {pc : Nat} {ls : Array Slot} {st0 : List Value}
/-- a call that leaves every cell -/
theorem kx_s {a : Array Value} {post : Int32 → Unit → Prop}
    (hr : va_Run p l e R s m args below meth c H locs cells slots 0 0 (F0 m pc ls st0) rest (va_Qi post (fun _ _ => True) (va_A [] H.size) a) (va_A [] H.size))
    (hP : va_P D vwCl w H) (hD : va_D A0 w) (hS : va_S A0 H0 H locs) (hA : ∀ q, H0.size ≤ q → A0 q)
    (kk : ∀ (r : Int32) (H1 : Heap) (locs1 : List Loc), post r () → va_P D vwCl w H1 → va_S A0 H0 H1 locs1 → W p l e R s m args below meth c H1 locs1 cells slots Q (F0 m (pc + 3) ls (.int r :: rest))) :
    W p l e R s m args below meth c H locs cells slots Q (F0 m pc ls st0) := by
  have hF : ∀ q, va_A [] H.size q → A0 q := va_free hD hS hA [] rfl
  refine va_calli hr hS (fun q _ h => hF q h) hF (fun r u t H1 locs1 ht hvm hw hB hz hk hS1 => ?_)
  refine kk r H1 locs1 hw (fun k q hq => (hP k q hq).kept (hk q.1 ((hP k q hq).lt) ?_)) hS1
  rintro (⟨k9, e9, h9⟩ | h9)
  · simp at h9
  · have := (hP k q hq).lt
    omega
end KS
/-- the words that the entry starts with -/
def wsLaw0 : List Cond := Cond.initialized "DecreePoolLaw" :: WL
theorem law_hts {s : State} {b : Nat} (h : ∀ w ∈ lw_tbl, w.before #[Value.ref b] s = true) : ∀ w ∈ wsLaw0, w.before #[Value.ref b] s = true := fun w hw =>
  (List.mem_cons.mp hw).elim (fun e => by rw [e]; exact h _ (List.mem_filter.mp wd0).1) (fun q => h w (List.mem_filter.mp q).1)
theorem law_arr {s : State} {args : Array Value} {ty : FieldType} (h : (Cond.arrayClass ty).before args s = true) : ∃ cA, ArrOfT s cA ty ∧ s.vm.findClass ("[" ++ ty.toString) = some cA := by
  obtain ⟨cA, kA, comp, h1, h2, h3⟩ := Cond.arrayClass_spec h
  exact ⟨cA, fun n z => ⟨fun k h => (by cases h), kA, h2, comp, h3⟩, h1⟩
