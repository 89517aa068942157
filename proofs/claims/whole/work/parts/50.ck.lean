/-- a constructor: it makes cells -/
def MC (l : Launch) (D : va_G) (tys : List (ClassId × FieldType)) (y : MethodName) (ws : List Cond) (rm : Room) (av : List Value) (w : va_W) (mc ms : Nat) (post : va_W → Prop) : Prop :=
  ∀ sz : Nat, Met l y ws rm (va_Pc av (PW D tys sz w)) (va_Qv post (QW D tys (va_A w sz)) (va_A w sz)) mc ms (va_A w sz)
section KC
variable {p : Program} {l : Launch} {e : Env} {R : Room} {s : State} {m : MethodId} {args : Array Value} {below : List Frame} {meth : Method} {c : Code} {H H0 : Heap} {locs : List Loc} {cells slots : Nat} {Q : State → Prop} {A0 : Nat → Prop} {D : va_G} {tys : List (ClassId × FieldType)}
variable {rest : List Value} {wc w : va_W} {pc : Nat} {ls : Array Slot} {st0 : List Value} {cc : ByteArray}
theorem kx_c {a : Array Value} {mk ms : Nat} {post : va_W → Prop}
    (hr : va_Run p l e R s m args below meth c H locs cells slots mk ms (F0 m pc ls st0) rest (va_Qv post (QW D tys (va_A wc H.size)) (va_A wc H.size) a) (va_A wc H.size))
    (hP : va_P D vwCl w H) (hD : va_D A0 w) (hS : va_S A0 H0 H locs) (hA : ∀ q, H0.size ≤ q → A0 q) (isC isR : List Nat) (hC : isC.map (fun i => w[i]?) = wc.map some) (hR : isR.map (fun i => w[i]?) = (pickW w isR).map some) (hn : va_nd isR = true) (hdis : ∀ i ∈ isR, i ∉ isC)
    (kk : ∀ (w1 : va_W) (H1 : Heap) (locs1 : List Loc), post w1 → va_P D vwCl (pickW w isR ++ w1) H1 → va_D A0 (pickW w isR ++ w1) → va_S A0 H0 H1 locs1 → W p l e R s m args below meth c H1 locs1 (cells + mk) (slots + ms) Q (F0 m (pc + 3) ls rest)) :
    W p l e R s m args below meth c H locs cells slots Q (F0 m pc ls st0) := by
  have hF := va_free hD hS hA isC hC
  refine va_callv hr hS (fun q _ h => hF q h) hF (fun u t H1 locs1 ht hvm hw hB hz hk hS1 => ?_)
  obtain ⟨hP1, hK1, hD1⟩ := hB
  rw [ht] at hP1
  obtain ⟨x1, x2⟩ := va_join hP hD isC isR hC hR hn hdis hk hF hP1 hD1
  exact kk u H1 locs1 hw x1 x2 hS1
theorem ka_newi (hexec : p.tables.exec = Jvm.exec) (hb : c.code = cc) (harr : (Cond.arrayClass .int).before args s = true) (hK : va_K D vwCl tys s) (hP : va_P D vwCl w H) (hD : va_D A0 w) (hS : va_S A0 H0 H locs) (hA : ∀ q, H0.size ≤ q → A0 q) (t0 : Nat) {cI : ClassId} (ht : tys[t0]? = some (cI, .int)) {N : Nat} (hN : N < 2 ^ 31) (hbytes : N * 4 ≤ 536870912) (hcells : cells + 1 ≤ R.cells) (hslots : slots + N ≤ R.slots) (hdg : decode cc pc = .ok (.newarray .int, 2))
    (kk : ∀ (q : Nat) (H1 : Heap), va_P D vwCl (w ++ [(q, .inl (cI, N, .inl (fun _ => 0)))]) H1 → va_D A0 (w ++ [(q, .inl (cI, N, .inl (fun _ => 0)))]) → va_S A0 H0 H1 locs → W p l e R s m args below meth c H1 locs (cells + 1) (slots + N) Q (F0 m (pc + 2) ls (.ref q :: rest))) : W p l e R s m args below meth c H locs cells slots Q (F0 m pc ls (.int (nI N) :: rest)) := by
  refine va_newa (atype := .int) (ty := .int) (a0 := (N, .inl (fun _ => 0))) hexec hb harr rfl hK hP hD hS hA (fun _ => rfl) (nI_pos hN) (nI_clamp hN) hbytes hcells hslots hdg (fun q cA H1 hK2 h1 h2 h3 => ?_)
  have e : cA = cI := by
    have g1 := (hK2.2 tys.length (cA, .int) (by rw [List.getElem?_append_right (Nat.le_refl _), Nat.sub_self]; rfl)).2
    have g2 := (hK.2 t0 (cI, .int) ht).2
    exact Option.some.inj ((va_nm_int g1).symm.trans (va_nm_int g2))
  subst e
  exact kk q H1 h1 h2 h3
theorem ka_newz (hexec : p.tables.exec = Jvm.exec) (hb : c.code = cc) (harr : (Cond.arrayClass .boolean).before args s = true) (hK : va_K D vwCl tys s) (hP : va_P D vwCl w H) (hD : va_D A0 w) (hS : va_S A0 H0 H locs) (hA : ∀ q, H0.size ≤ q → A0 q) (t0 : Nat) {cI : ClassId} (ht : tys[t0]? = some (cI, .boolean)) {N : Nat} (hN : N < 2 ^ 31) (hbytes : N * 1 ≤ 536870912) (hcells : cells + 1 ≤ R.cells) (hslots : slots + N ≤ R.slots) (hdg : decode cc pc = .ok (.newarray .boolean, 2))
    (kk : ∀ (q : Nat) (H1 : Heap), va_P D vwCl (w ++ [(q, .inl (cI, N, .inl (fun _ => 0)))]) H1 → va_D A0 (w ++ [(q, .inl (cI, N, .inl (fun _ => 0)))]) → va_S A0 H0 H1 locs → W p l e R s m args below meth c H1 locs (cells + 1) (slots + N) Q (F0 m (pc + 2) ls (.ref q :: rest))) : W p l e R s m args below meth c H locs cells slots Q (F0 m pc ls (.int (nI N) :: rest)) := by
  refine va_newa (atype := .boolean) (ty := .boolean) (a0 := (N, .inl (fun _ => 0))) hexec hb harr rfl hK hP hD hS hA (fun _ => rfl) (nI_pos hN) (nI_clamp hN) hbytes hcells hslots hdg (fun q cA H1 hK2 h1 h2 h3 => ?_)
  have e : cA = cI := by
    have g1 := (hK2.2 tys.length (cA, .boolean) (by rw [List.getElem?_append_right (Nat.le_refl _), Nat.sub_self]; rfl)).2
    have g2 := (hK.2 t0 (cI, .boolean) ht).2
    exact Option.some.inj ((va_nm_boolean g1).symm.trans (va_nm_boolean g2))
  subst e
  exact kk q H1 h1 h2 h3
end KC
abbrev wA (a : Nat) (cI : ClassId) (L : Nat) (f : Nat → Int32) : va_W := [(a, .inl (cI, L, .inl f))]
def x0 : St := (fun c _ _ => if c = 2 ∨ c = 4 ∨ c = 8 ∨ c = 9 then -1 else 0, fun c _ _ _ => if c = 0 then -1 else 0)
def dN (v : Int32) : Nat := if nI 1 ≤ v ∧ v ≤ nI 5 then ix v else 3
def dS (v : Int32) : Nat := if nI 1 ≤ v ∧ v ≤ nI 4 then ix v else 2
def dP (v : Int32) : Nat := if nI 5 ≤ v ∧ v ≤ nI 64 then ix v else 32
theorem rng {v : Int32} {lo hi : Nat} (hh : hi < 2 ^ 31) (h : nI lo ≤ v ∧ v ≤ nI hi) (hl : lo < 2 ^ 31) : ∃ j, lo ≤ j ∧ j ≤ hi ∧ v = nI j := by
  have h0 : ¬ v < 0 := Int32.not_lt.mpr (Int32.le_trans (nI_pos' hl) h.1)
  obtain ⟨j, hj, rfl⟩ := nI_of h0
  exact ⟨j, (nI_leI hl hj).mp h.1, (nI_leI hj hh).mp h.2, rfl⟩
theorem cnt0 {f : Nat → Int32} (h : ∀ i, f i = 0) : ∀ n, cnt f n = 0 := by
  intro n
  induction n with
  | zero => rfl
  | succ n ih => unfold cnt; rw [ih, if_pos (h n)]
theorem msk0 {f : Nat → Int32} (h : ∀ i, f i = 0) : ∀ n, msk f n = 2 ^ n - 1 := by
  intro n
  induction n with
  | zero => rfl
  | succ n ih =>
    unfold msk
    have := Nat.two_pow_pos n
    rw [ih, if_pos (h n), Nat.pow_succ]
    omega
theorem z00 : (0 : Int32) ≤ 0 := by decide
theorem Inv_0 {n S : Nat} : Inv n S x0 := by
  refine ⟨fun m h => absurd rfl h, ⟨fun s b v v' p q => ?_, fun s b v p => ?_, fun a s _ h => absurd (show (0 : Int32) = nI 1 from h) (by decide)⟩, ⟨fun _ _ => z00, fun _ _ => z00, fun _ _ => z00, fun _ _ => z00, fun _ _ => z00⟩, ⟨fun _ _ => (show (-1 : Int32) ≤ -1 by decide), fun _ _ h => absurd rfl h, fun _ _ _ => rfl⟩, fun _ _ => ⟨0, by decide, rfl⟩, fun _ => Or.inl rfl⟩
  · obtain ⟨-, ⟨a, e1, e2, -⟩ | ⟨m, e1, -⟩⟩ := p
    · rw [← e1] at e2; exact absurd (show (0 : Int32) ≤ -1 from e2) (by decide)
    · exact absurd (show (0 : Int32) = nI 3 ∨ (0 : Int32) = nI 4 from e1) (by decide)
  · obtain ⟨-, ⟨a, e1, e2, -⟩ | ⟨m, e1, -⟩⟩ := p
    · rw [← e1] at e2; exact absurd (show (0 : Int32) ≤ -1 from e2) (by decide)
    · exact absurd (show (0 : Int32) = nI 3 ∨ (0 : Int32) = nI 4 from e1) (by decide)
theorem wX_init {q : Nat → Nat} {cI : ClassId} {n S P : Nat} :
    wD q cI n S P (n * S) (nI (2 ^ n - 1)) (nI 0) (nI 0) (fun _ _ => 0) 0 (fun _ => 0) (fun _ => -1) (fun _ => 0) (fun _ => -1) (fun _ => 0) (fun _ => -1) (fun _ => -1) (fun _ => 0) (fun _ => -1) (fun _ => 0) = wX q cI n S P x0 := by
  have e1 : cntx P x0 = 0 := cnt0 (fun _ => rfl) P
  have e2 : msk (col (x0.1 13) 0) n = 2 ^ n - 1 := msk0 (fun _ => rfl) n
  show _ = wD q cI n S P (n * S) (nI (msk (col (x0.1 13) 0) n)) _ _ _ (cntx P x0) _ _ _ _ _ _ _ _ _ _
  rw [e1, e2]
  rfl
theorem wdO : Cond.code objectInit ⟨#[0xb1]⟩ 1 none ∈ WL := WL_t 16 (by decide +kernel) rfl
