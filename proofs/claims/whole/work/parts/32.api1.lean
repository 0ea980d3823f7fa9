/-! PURE: the calls that only read or set numbers -/
theorem l0 (p : Int32) : (0 : Int64) ≤ p.toInt64 ↔ 0 ≤ p := by rw [show (0 : Int64) = (0 : Int32).toInt64 by decide, l_le]
theorem l2 (p : Int32) : p.toInt64 ≤ (2 : Int64) ↔ p ≤ 2 := by rw [show (2 : Int64) = (2 : Int32).toInt64 by decide, l_le]
theorem l3 (p : Int32) : p.toInt64 ≤ (3 : Int64) ↔ p ≤ 3 := by rw [show (3 : Int64) = (3 : Int32).toInt64 by decide, l_le]
theorem l100 (p : Int32) : p.toInt64 ≤ (100 : Int64) ↔ p ≤ 100 := by rw [show (100 : Int64) = (100 : Int32).toInt64 by decide, l_le]
/-- a number below a count -/
theorem below {p : Int32} {c : Nat} (hc : c < 2 ^ 31) : (0 ≤ p ∧ p ≤ nI c - 1) ↔ ∃ k, k < c ∧ p = nI k := by
  constructor
  · rintro ⟨h0, h1⟩
    obtain ⟨j, hj, rfl⟩ := nI_of (Int32.not_lt.mpr h0)
    refine ⟨j, ?_, rfl⟩
    cases c with
    | zero =>
      exfalso
      rw [Int32.le_iff_toInt_le, nI_toInt hj] at h1
      have : (nI 0 - 1).toInt = -1 := by decide
      omega
    | succ c =>
      rw [nI_pred, nI_leI hj (by omega)] at h1
      omega
  · rintro ⟨k, hk, rfl⟩
    refine ⟨nI_pos' (by omega), ?_⟩
    cases c with
    | zero => omega
    | succ c =>
      rw [nI_pred, nI_leI (by omega) (by omega)]
      omega
theorem upto {p : Int32} {n : Nat} (hn : n < 2 ^ 31) : (0 ≤ p ∧ p ≤ nI n) ↔ ∃ k, k ≤ n ∧ p = nI k := by
  constructor
  · rintro ⟨h0, h1⟩
    obtain ⟨j, hj, rfl⟩ := nI_of (Int32.not_lt.mpr h0)
    rw [nI_leI hj hn] at h1
    exact ⟨j, h1, rfl⟩
  · rintro ⟨k, hk, rfl⟩
    exact ⟨nI_pos' (by omega), (nI_leI (by omega) hn).mpr hk⟩
theorem ix {k n : Nat} (h : k < n) (hn : n < 2 ^ 31) : (0 ≤ nI k ∧ (nI k).toNatClampNeg < n) := ⟨nI_pos' (by omega), by rw [nI_clamp (by omega)]; exact h⟩
theorem ixc {k n : Nat} (h : k < n) (hn : n < 2 ^ 31) : (0 ≤ nI k ∧ k < n) := ⟨nI_pos' (by omega), h⟩
theorem ag_fault (c : Nat) : Ag c f_X11_fault f_X12_fault := Ag.read (fun S h => ⟨S.1 6 3, rfl, by rw [h.2.1]; rfl⟩)
theorem ag_first (c : Nat) : Ag c f_X11_first f_X12_first := Ag.read (fun S h => ⟨S.1 0 6, rfl, by rw [h.2.2.2.2.2.2.1]; rfl⟩)
theorem wire_has {S : mM} {n : Nat} (hn : n ≤ 20) (h : S.1 66 2 = nI n) (p : Int32) : f_X10_has p S = some (if ∃ k, k < n ∧ p = nI k then 1 else 0, S) := by
  unfold f_X10_has
  rw [isIn_eq, mBind_of, if_pos b01', h]
  simp only [below (p := p) (c := n) (by omega)]
theorem ag_got (c : Nat) (p : Int32) : Ag c (f_X11_got p) (f_X12_got p) := Ag.read (fun S h => by
  obtain ⟨-, n, hn, h1, h2, h3⟩ := h.2.2.2.2.2.2.2
  unfold f_X11_got f_X12_got
  rw [wire_has hn h1, mBind_of, in_eq, mBind_of, h2]
  simp only [l0, l_le, below (p := p) (c := n) (by omega), b01]
  by_cases hk : ∃ k, k < n ∧ p = nI k
  · obtain ⟨k, hk, rfl⟩ := hk
    have e : ∃ k', k' < n ∧ nI k = nI k' := ⟨k, hk, rfl⟩
    simp only [e, not_true_eq_false, if_false, if_pos (ix (show k < 20 by omega) (by omega)), if_pos (ixc (show k < 20 by omega) (by omega)), nI_clamp (show k < 2 ^ 31 by omega), (h3 k hk).1]
    exact ⟨_, rfl, rfl⟩
  · simp only [hk, not_false_eq_true, if_true]
    exact ⟨_, rfl, rfl⟩)
theorem ag_when (c : Nat) (p : Int32) : Ag c (f_X11_when p) (f_X12_when p) := Ag.read (fun S h => by
  obtain ⟨h0, n, hn, h1, h2, h3⟩ := h.2.2.2.2.2.2.2
  unfold f_X11_when f_X12_when
  rw [wire_has hn h1, mBind_of, in_eq, mBind_of, h2, h0]
  simp only [l0, l_le, below (p := p) (c := n) (by omega), b01]
  by_cases hm : p = -1
  · simp only [hm, if_true]
    exact ⟨_, rfl, rfl⟩
  · simp only [hm, if_false]
    by_cases hk : ∃ k, k < n ∧ p = nI k
    · obtain ⟨k, hk, rfl⟩ := hk
      have e : ∃ k', k' < n ∧ nI k = nI k' := ⟨k, hk, rfl⟩
      simp only [e, not_true_eq_false, if_false, if_pos (ix (show k < 20 by omega) (by omega)), if_pos (ixc (show k < 20 by omega) (by omega)), nI_clamp (show k < 2 ^ 31 by omega), (h3 k hk).2]
      exact ⟨_, rfl, rfl⟩
    · simp only [hk, not_false_eq_true, if_true]
      exact ⟨_, rfl, rfl⟩)
