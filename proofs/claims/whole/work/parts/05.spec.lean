/-! What each call answers and does, on the mathematical state -/
abbrev okN (v : Int32) (b : Nat) : Prop := 0 ≤ v ∧ v < nI b
theorem okN_of {v : Int32} {b : Nat} (hb : b < 2 ^ 31) (h : okN v b) : ∃ a, a < b ∧ v = nI a := by
  have h0 : ¬ v < 0 := Int32.not_lt.mpr h.1
  obtain ⟨j, hj, rfl⟩ := nI_of h0
  exact ⟨j, (nI_ltI hj hb).mp h.2, rfl⟩
theorem okN_nI {a b : Nat} (ha : a < b) (hb : b < 2 ^ 31) : okN (nI a) b := ⟨nI_pos' (by omega), nI_lt ha hb⟩
abbrev ix (v : Int32) : Nat := v.toNatClampNeg
theorem ix_nI {a b : Nat} (ha : a < b) (hb : b < 2 ^ 31) : ix (nI a) = a := nI_clamp (by omega)
def popn (k : Nat) : Nat := k % 2 + k / 2 % 2 + k / 4 % 2 + k / 8 % 2 + k / 16 % 2
def orb (v s : Int32) : Int32 := v ||| (nI 1 <<< (s &&& 31))
def cntE (f : Nat → Int32) (b : Int32) : Nat → Nat
  | 0 => 0
  | i + 1 => cntE f b i + (if f i = b then 1 else 0)
theorem cntE_le (f : Nat → Int32) (b : Int32) : ∀ i, cntE f b i ≤ i := by
  intro i
  induction i with
  | zero => exact Nat.le_refl _
  | succ i ih => unfold cntE; split <;> omega
def sBegin (x : St) (a s : Nat) (b v : Int32) : St := put (put (put (put (put (put (put x 1 a s (nI 1)) 2 a s b) 3 a s (nI 0)) 4 a s (-1)) 5 a s v) 6 a s v) 7 a s (nI 0)
def sPrep (n S P : Nat) (x : St) (nd sl rd vl : Int32) : Int32 × St :=
  if okN nd n ∧ okN sl S ∧ 0 ≤ rd ∧ rd ≤ nI 1000 ∧ nI 1 ≤ vl then
    if x.1 13 (ix nd) 0 ≠ 0 then (-2, x)
    else if rd * nI n + nd ≤ x.1 2 (ix nd) (ix sl) then (-3, x)
    else if P - cntx P x < n then (-4, x)
    else (rd * nI n + nd, sendA P (sBegin x (ix nd) (ix sl) (rd * nI n + nd) vl) (nI 1) nd sl (rd * nI n + nd) (nI 0) n)
  else (-1, x)
def sLearn (x : St) (a s : Nat) (v : Int32) : St := if x.1 11 a s = 0 then put x 11 a s v else x
def sHear (n : Nat) (x : St) (a s c : Nat) (b v : Int32) : St :=
  if x.2 0 a s c < b then
    (if n < 2 * cntE (up3 (x.2 0) a s c b a s) b n then sLearn (pth (pth x 0 a s c b) 1 a s c v) a s v else pth (pth x 0 a s c b) 1 a s c v)
  else x
def sProm1 (x : St) (a s : Nat) (snd v o : Int32) : St :=
  if x.1 4 a s < o then put (put (put (put x 3 a s (orb (x.1 3 a s) snd)) 4 a s o) 5 a s v) 7 a s v else put x 3 a s (orb (x.1 3 a s) snd)
abbrev sWins (n : Nat) (x : St) (a s : Nat) (snd b : Int32) : Prop := (x.1 1 a s = nI 1 ∧ x.1 2 a s = b) ∧ n < 2 * popn (ix (orb (x.1 3 a s) snd))
def sAcc (x : St) (a s : Nat) (b v : Int32) : St := put (put (put x 8 a s b) 9 a s b) 10 a s v
def sTake (n P : Nat) (x : St) (k : Int32) (c a t : Nat) (b v o : Int32) : St :=
  if k = nI 1 then
    (if x.1 8 a t < b then send1 P (put x 8 a t b) (nI 2) (nI a) (nI c) (nI t) b (x.1 10 a t) (x.1 9 a t) else x)
  else if k = nI 2 then
    (if x.1 1 a t = nI 1 ∧ x.1 2 a t = b then
      (if n < 2 * popn (ix (orb (x.1 3 a t) (nI c))) then
        sendA P (put (sProm1 x a t (nI c) v o) 1 a t (nI 2)) (nI 3) (nI a) (nI t) b ((sProm1 x a t (nI c) v o).1 5 a t) n
      else sProm1 x a t (nI c) v o)
    else x)
  else if k = nI 3 then
    (if x.1 8 a t ≤ b then sendA P (sAcc x a t b v) (nI 4) (nI a) (nI t) b v n else x)
  else if k = nI 4 then sHear n x a t c b v
  else sLearn x a t v
theorem sTake_1 {n P : Nat} {x : St} {c a t : Nat} {b v o : Int32} : sTake n P x (nI 1) c a t b v o = (if x.1 8 a t < b then send1 P (put x 8 a t b) (nI 2) (nI a) (nI c) (nI t) b (x.1 10 a t) (x.1 9 a t) else x) := by
  unfold sTake; rw [if_pos rfl]
theorem sTake_2 {n P : Nat} {x : St} {c a t : Nat} {b v o : Int32} : sTake n P x (nI 2) c a t b v o = (if x.1 1 a t = nI 1 ∧ x.1 2 a t = b then
      (if n < 2 * popn (ix (orb (x.1 3 a t) (nI c))) then
        sendA P (put (sProm1 x a t (nI c) v o) 1 a t (nI 2)) (nI 3) (nI a) (nI t) b ((sProm1 x a t (nI c) v o).1 5 a t) n
      else sProm1 x a t (nI c) v o)
    else x) := by
  unfold sTake; rw [if_neg (by decide), if_pos rfl]
theorem sTake_3 {n P : Nat} {x : St} {c a t : Nat} {b v o : Int32} : sTake n P x (nI 3) c a t b v o = (if x.1 8 a t ≤ b then sendA P (sAcc x a t b v) (nI 4) (nI a) (nI t) b v n else x) := by
  unfold sTake; rw [if_neg (by decide), if_neg (by decide), if_pos rfl]
theorem sTake_4 {n P : Nat} {x : St} {c a t : Nat} {b v o : Int32} : sTake n P x (nI 4) c a t b v o = sHear n x a t c b v := by
  unfold sTake; rw [if_neg (by decide), if_neg (by decide), if_neg (by decide), if_pos rfl]
theorem sTake_5 {n P : Nat} {x : St} {c a t : Nat} {b v o k : Int32} (h1 : ¬ k = nI 1) (h2 : ¬ k = nI 2) (h3 : ¬ k = nI 3) (h4 : ¬ k = nI 4) : sTake n P x k c a t b v o = sLearn x a t v := by
  unfold sTake; rw [if_neg h1, if_neg h2, if_neg h3, if_neg h4]
def sOut (x : St) (m : Nat) : St := put (put x 0 m 0 (nI 0)) 12 0 0 (x.1 12 0 0 + nI 1)
def sLost (x : St) : St := put x 12 0 1 (x.1 12 0 1 + nI 1)
def sHo (n P : Nat) (x : St) (m : Nat) : Int32 × St :=
  if x.1 13 (ix (x.1 0 m 2)) 0 ≠ 0 then (nI 0, sLost (sOut x m))
  else (x.1 0 m 0, sTake n P (sOut x m) (x.1 0 m 0) (ix (x.1 0 m 1)) (ix (x.1 0 m 2)) (ix (x.1 0 m 3)) (x.1 0 m 4) (x.1 0 m 5) (x.1 0 m 6))
theorem sHo_d {n P : Nat} {x : St} {m a : Nat} (hr : ix (x.1 0 m 2) = a) (h : ¬ x.1 13 a 0 = 0) : sHo n P x m = (nI 0, sLost (sOut x m)) := by
  unfold sHo; rw [hr, if_pos h]
theorem sHo_u {n P : Nat} {x : St} {m c a t : Nat} (hc : ix (x.1 0 m 1) = c) (hr : ix (x.1 0 m 2) = a) (ht : ix (x.1 0 m 3) = t) (h : x.1 13 a 0 = 0) : sHo n P x m = (x.1 0 m 0, sTake n P (sOut x m) (x.1 0 m 0) c a t (x.1 0 m 4) (x.1 0 m 5) (x.1 0 m 6)) := by
  unfold sHo; rw [hr, hc, ht, if_neg (fun q => q h)]
abbrev sAll (n : Nat) (x : St) (m : Nat) : Prop :=
  (x.1 0 m 0 = nI 2 ∧ sWins n x (ix (x.1 0 m 2)) (ix (x.1 0 m 3)) (x.1 0 m 1) (x.1 0 m 4)) ∨ (x.1 0 m 0 = nI 3 ∧ x.1 8 (ix (x.1 0 m 2)) (ix (x.1 0 m 3)) ≤ x.1 0 m 4)
/-- the message can't be delivered now -/
abbrev sBlk (n P : Nat) (x : St) (m : Nat) : Prop := x.1 13 (ix (x.1 0 m 2)) 0 = 0 ∧ P - cntx P x + 1 < n ∧ sAll n x m
abbrev isM (P : Nat) (x : St) (v : Int32) : Prop := okN v P ∧ x.1 0 (ix v) 0 ≠ 0
def sDel (n P : Nat) (x : St) (v : Int32) : Int32 × St :=
  if isM P x v then (if sBlk n P x (ix v) then (-4, x) else sHo n P x (ix v)) else (-1, x)
/-- the least place whose message can be delivered, or P -/
def ldv (n P : Nat) (x : St) : Nat → Nat → Nat
  | 0, i => i
  | d + 1, i => if x.1 0 i 0 ≠ 0 ∧ ¬ sBlk n P x i then i else ldv n P x d (i + 1)
theorem ldv_s {n P : Nat} {x : St} {d i : Nat} (h : x.1 0 i 0 ≠ 0 ∧ ¬ sBlk n P x i) : ldv n P x (d + 1) i = i := by
  show (if x.1 0 i 0 ≠ 0 ∧ ¬ sBlk n P x i then i else ldv n P x d (i + 1)) = i
  rw [if_pos h]
theorem ldv_n {n P : Nat} {x : St} {d i : Nat} (h : ¬ (x.1 0 i 0 ≠ 0 ∧ ¬ sBlk n P x i)) : ldv n P x (d + 1) i = ldv n P x d (i + 1) := by
  show (if x.1 0 i 0 ≠ 0 ∧ ¬ sBlk n P x i then i else ldv n P x d (i + 1)) = _
  rw [if_neg h]
def sSw (n P : Nat) : Nat → St → Nat × St
  | 0, x => (0, x)
  | k + 1, x => if ldv n P x P 0 = P then (0, x) else ((sSw n P k (sHo n P x (ldv n P x P 0)).2).1 + 1, (sSw n P k (sHo n P x (ldv n P x P 0)).2).2)
def sSweep (n P : Nat) (x : St) (k : Int32) : Int32 × St := if 0 ≤ k ∧ k ≤ nI 100 then (nI (sSw n P (ix k) x).1, (sSw n P (ix k) x).2) else (-1, x)
def sDrop (P : Nat) (x : St) (v : Int32) : Int32 × St := if isM P x v then (x.1 0 (ix v) 0, sLost (put x 0 (ix v) 0 (nI 0))) else (-1, x)
def sDup (P : Nat) (x : St) (v : Int32) : Int32 × St :=
  if isM P x v then (if cntx P x = P then (-4, x) else (nI (lstx P x), send1 P x (x.1 0 (ix v) 0) (x.1 0 (ix v) 1) (x.1 0 (ix v) 2) (x.1 0 (ix v) 3) (x.1 0 (ix v) 4) (x.1 0 (ix v) 5) (x.1 0 (ix v) 6))) else (-1, x)
def upn (n : Nat) (x : St) : Nat := cntE (col (x.1 13) 0) 0 n
def sCrash (n : Nat) (x : St) (v : Int32) : Int32 × St :=
  if okN v n ∧ x.1 13 (ix v) 0 = 0 then (nI (upn n (put x 13 (ix v) 0 (nI 1))), put x 13 (ix v) 0 (nI 1)) else (-1, x)
/-- node a comes back: the slots below j are cleared -/
def clr (x : St) (a j : Nat) : St :=
  (fun c a' s' => if a' = a ∧ s' < j then (if c = 1 ∨ c = 3 ∨ c = 7 ∨ c = 11 then nI 0 else if c = 4 then -1 else x.1 c a' s') else x.1 c a' s',
   fun c a' s' b' => if a' = a ∧ s' < j then (if c = 0 then -1 else nI 0) else x.2 c a' s' b')
def sBack (x : St) (a : Nat) : St :=
  (fun c a' s' => if a' = a ∧ (c = 1 ∨ c = 3 ∨ c = 7 ∨ c = 11) then nI 0 else if a' = a ∧ c = 4 then -1 else x.1 c a' s',
   fun c a' s' b' => if a' = a then (if c = 0 then -1 else nI 0) else x.2 c a' s' b')
def sRest (n : Nat) (x : St) (v : Int32) : Int32 × St :=
  if okN v n ∧ x.1 13 (ix v) 0 ≠ 0 then (nI (upn n (put x 13 (ix v) 0 (nI 0))), sBack (put x 13 (ix v) 0 (nI 0)) (ix v)) else (-1, x)
def sTell (n S P : Nat) (x : St) (nd sl : Int32) : Int32 × St :=
  if okN nd n ∧ okN sl S ∧ x.1 11 (ix nd) (ix sl) ≠ 0 then
    if x.1 13 (ix nd) 0 ≠ 0 then (-2, x)
    else if P - cntx P x < n then (-4, x)
    else (x.1 11 (ix nd) (ix sl), sendA P x (nI 5) nd sl (-1) (x.1 11 (ix nd) (ix sl)) n)
  else (-1, x)
def aLearned (n S : Nat) (x : St) (nd sl : Int32) : Int32 := if okN nd n ∧ okN sl S then x.1 11 (ix nd) (ix sl) else -1
def aAcc (n S : Nat) (x : St) (nd sl w : Int32) : Int32 :=
  if okN nd n ∧ okN sl S then (if w = nI 0 then x.1 8 (ix nd) (ix sl) else if w = nI 1 then x.1 9 (ix nd) (ix sl) else if w = nI 2 then x.1 10 (ix nd) (ix sl) else -1) else -1
def aProp (n S : Nat) (x : St) (nd sl w : Int32) : Int32 :=
  if okN nd n ∧ okN sl S then
    (if w = nI 0 then x.1 1 (ix nd) (ix sl) else if w = nI 1 then x.1 2 (ix nd) (ix sl) else if w = nI 2 then nI (popn (ix (x.1 3 (ix nd) (ix sl)))) else if w = nI 3 then x.1 4 (ix nd) (ix sl)
     else if w = nI 4 then (if x.1 1 (ix nd) (ix sl) = nI 2 then x.1 5 (ix nd) (ix sl) else nI 0) else -1) else -1
def aHeard (n S : Nat) (x : St) (nd sl w : Int32) : Int32 := if okN nd n ∧ okN sl S ∧ okN w n then x.2 0 (ix nd) (ix sl) (ix w) else -1
def aMsg (P : Nat) (x : St) (v w : Int32) : Int32 := if isM P x v ∧ okN w 7 then x.1 0 (ix v) (ix w) else -1
/-- the value of the first node whose accepted ballot most nodes have -/
def cho (n : Nat) (f g : Nat → Int32) : Nat → Nat → Int32
  | 0, _ => nI 0
  | d + 1, a => if n < 2 * cntE f (f a) n then g a else cho n f g d (a + 1)
theorem cho_s {n : Nat} {f g : Nat → Int32} {d a : Nat} (h : n < 2 * cntE f (f a) n) : cho n f g (d + 1) a = g a := by
  show (if n < 2 * cntE f (f a) n then g a else cho n f g d (a + 1)) = _
  rw [if_pos h]
theorem cho_n {n : Nat} {f g : Nat → Int32} {d a : Nat} (h : ¬ n < 2 * cntE f (f a) n) : cho n f g (d + 1) a = cho n f g d (a + 1) := by
  show (if n < 2 * cntE f (f a) n then g a else cho n f g d (a + 1)) = _
  rw [if_neg h]
def aChosen (n S : Nat) (x : St) (sl : Int32) : Int32 := if okN sl S then cho n (fun a => x.1 9 a (ix sl)) (fun a => x.1 10 a (ix sl)) n 0 else -1
def aPfx (n S : Nat) (x : St) (nd : Int32) : Int32 := if okN nd n then nI (lst (x.1 11 (ix nd)) S 0) else -1
def app1 (r : Int64) (v : Int32) : Int64 := if v.toInt % 2 = 0 then r + v.toInt64 else r * v.toInt64 + 1
def appl (f : Nat → Int32) : Nat → Int64
  | 0 => 0
  | i + 1 => app1 (appl f i) (f i)
def aApp (n S : Nat) (x : St) (nd : Int32) : Int64 := if okN nd n then appl (x.1 11 (ix nd)) (lst (x.1 11 (ix nd)) S 0) else 0
def aCount (n S P : Nat) (x : St) (w : Int32) : Int32 :=
  if w = nI 0 then nI (cntx P x) else if w = nI 1 then nI n else if w = nI 2 then nI S else if w = nI 3 then nI P else if w = nI 4 then x.1 12 0 0 else if w = nI 5 then x.1 12 0 1
  else if w = nI 6 then nI (msk (col (x.1 13) 0) n) else -1
theorem wi_no {v : Int32} {P : Nat} (hP : P < 2 ^ 31) (h : ¬ (nI 0 ≤ v ∧ v ≤ nI (P - 1))) : ¬ okN v P := by
  intro q
  obtain ⟨j, hj, rfl⟩ := okN_of hP q
  exact h ⟨nI_pos' (by omega), nI_le (by omega) (by omega)⟩
theorem popn_le (k : Nat) : popn k ≤ 5 := by unfold popn; omega
theorem wi_ok {v : Int32} {P : Nat} (h1 : 1 ≤ P) (hP : P < 2 ^ 31) (h : nI 0 ≤ v ∧ v ≤ nI (P - 1)) : okN v P := by
  obtain ⟨j, hj, rfl⟩ := wi_of h1 hP h
  exact okN_nI hj hP
theorem L20 {n S : Nat} (h1 : n ≤ 5) (h2 : S ≤ 4) : n * S ≤ 20 := Nat.mul_le_mul h1 h2
theorem ite_1 {p : Prop} {i : Decidable p} (h : (if p then nI 1 else nI 0) = nI 1) : p := by
  by_cases q : p
  · exact q
  · rw [if_neg q] at h
    exact absurd h (by decide)
