theorem app_i {v : Int32} (h : 0 ≤ v) : v - v / nI 2 * nI 2 = 0 ↔ v.toInt % 2 = 0 := by
  obtain ⟨k, hk, rfl⟩ := nI_of (Int32.not_lt.mpr h)
  rw [pk_rem hk (by decide) (by decide), nI_toInt hk, show (0 : Int32) = nI 0 from rfl, nI_eq (by omega) (by decide)]
  omega
theorem app_l {v : Int32} (h : 0 ≤ v) : v.toInt64 - v.toInt64 / 2 * 2 = 0 ↔ v.toInt % 2 = 0 := by
  obtain ⟨k, hk, rfl⟩ := nI_of (Int32.not_lt.mpr h)
  rw [nI_l hk, show (2 : Int64) = lN 2 from rfl, pk_lRem (by omega) (by decide) (by decide), nI_toInt hk, show (0 : Int64) = lN 0 from rfl, lN_eq (by omega) (by decide)]
  omega
theorem app_t {f : Nat → Int32} {i : Nat} (h : (f i).toInt % 2 = 0) : appl f i + (f i).toInt64 = appl f (i + 1) := (if_pos h).symm
theorem app_f {f : Nat → Int32} {i : Nat} (h : ¬ (f i).toInt % 2 = 0) : appl f i * (f i).toInt64 + 1 = appl f (i + 1) := (if_neg h).symm
theorem sSw_e {n P k : Nat} {x : St} (h : ldv n P x P 0 = P) : sSw n P (k + 1) x = (0, x) := by
  show (if ldv n P x P 0 = P then (0, x) else _) = _
  rw [if_pos h]
theorem sSw_s {n P k : Nat} {x : St} (h : ldv n P x P 0 ≠ P) : sSw n P (k + 1) x = ((sSw n P k (sHo n P x (ldv n P x P 0)).2).1 + 1, (sSw n P k (sHo n P x (ldv n P x P 0)).2).2) := by
  show (if ldv n P x P 0 = P then (0, x) else _) = _
  rw [if_neg h]
