/-! PURE: numbers, memory -/
theorem nI_lit (n : Nat) : (OfNat.ofNat n : Int32) = nI n := rfl
theorem nI_sub {a b : Nat} (h : b ≤ a) : nI a - nI b = nI (a - b) := by
  have h1 : nI a = nI (a - b) + nI b := by rw [nI_add, Nat.sub_add_cancel h]
  rw [h1, Int32.add_sub_cancel]
theorem nI_mul (a b : Nat) : nI a * nI b = nI (a * b) := (Int32.ofNat_mul a b).symm
theorem nI_range {x : Int32} {n : Nat} (hn : n < 2 ^ 31) (h0 : ¬ x < 0) (h1 : ¬ nI n < x) : ∃ k, k ≤ n ∧ x = nI k := by
  obtain ⟨j, hj, rfl⟩ := nI_of h0
  refine ⟨j, ?_, rfl⟩
  rw [nI_ltI hn hj] at h1
  omega
/-- isIn -/
theorem isIn_eq (v lo hi : Int32) (S : mM) : f_X11_isIn v lo hi S = some (if lo ≤ v ∧ v ≤ hi then 1 else 0, S) := by
  unfold f_X11_isIn
  by_cases h1 : v < lo
  · rw [if_pos h1, if_neg (fun h => Int32.not_le.mpr h1 h.1)]
  · rw [if_neg h1]
    by_cases h2 : hi < v
    · rw [if_pos h2, if_neg (fun h => Int32.not_le.mpr h2 h.2)]
    · rw [if_neg h2, if_pos ⟨Int32.not_lt.mp h1, Int32.not_lt.mp h2⟩]
theorem in_eq (v lo hi : Int64) (S : mM) : f_X12_in v lo hi S = some (if lo ≤ v ∧ v ≤ hi then 1 else 0, S) := by
  unfold f_X12_in
  simp only [lg_cmp_lt, lg_cmp_gt]
  by_cases h1 : v < lo
  · rw [if_pos h1, if_neg (fun h => Int64.not_le.mpr h1 h.1)]
  · rw [if_neg h1]
    by_cases h2 : hi < v
    · rw [if_pos h2, if_neg (fun h => Int64.not_le.mpr h2 h.2)]
    · rw [if_neg h2, if_pos ⟨Int64.not_lt.mp h1, Int64.not_lt.mp h2⟩]
theorem l_le (a b : Int32) : a.toInt64 ≤ b.toInt64 ↔ a ≤ b := by
  rw [Int64.le_iff_toInt_le, Int32.le_iff_toInt_le, Int32.toInt_toInt64, Int32.toInt_toInt64]
theorem l_lt (a b : Int32) : a.toInt64 < b.toInt64 ↔ a < b := by
  rw [Int64.lt_iff_toInt_lt, Int32.lt_iff_toInt_lt, Int32.toInt_toInt64, Int32.toInt_toInt64]
theorem l_lit (n : Nat) (h : n < 2 ^ 31) : (OfNat.ofNat n : Int64) = (OfNat.ofNat n : Int32).toInt64 := (nI_l h).symm
theorem b01 {p : Prop} [Decidable p] : ((if p then (1 : Int32) else 0) = 0) ↔ ¬ p := by
  by_cases h : p <;> simp [h]
theorem b01' {p : Prop} [Decidable p] : ((if p then (1 : Int32) else 0) = 0 ∨ (if p then (1 : Int32) else 0) = 1) := by
  by_cases h : p <;> simp [h]
/-- the memory's reads and writes -/
theorem setI_1 (S : mM) (a k : Nat) (v : Int32) (b j : Nat) : (setI S a k v).1 b j = if b = a ∧ j = k then v else S.1 b j := by
  unfold setI
  by_cases h : b = a
  · subst h
    simp only [if_true, upd, true_and]
  · simp only [if_neg h, h, false_and, if_false]
theorem setI_2 (S : mM) (a k : Nat) (v : Int32) : (setI S a k v).2 = S.2 := rfl
theorem setJ_1 (S : mM) (a k : Nat) (v : Int64) : (setJ S a k v).1 = S.1 := rfl
theorem setJ_2 (S : mM) (a k : Nat) (v : Int64) (b j : Nat) : (setJ S a k v).2.1 b j = if b = a ∧ j = k then v else S.2.1 b j := by
  unfold setJ
  by_cases h : b = a
  · subst h
    simp only [if_true, vp_updL, true_and]
  · simp only [if_neg h, h, false_and, if_false]
theorem setJ_3 (S : mM) (a k : Nat) (v : Int64) : (setJ S a k v).2.2 = S.2.2 := rfl
theorem setP_1 (S : mM) (a k v : Nat) : (setP S a k v).1 = S.1 := rfl
theorem setP_2 (S : mM) (a k v : Nat) : (setP S a k v).2.1 = S.2.1 := rfl
theorem setP_3 (S : mM) (a k v : Nat) (b j : Nat) : (setP S a k v).2.2 b j = if b = a ∧ j = k then v else S.2.2 b j := by
  unfold setP
  by_cases h : b = a
  · subst h
    simp only [if_true, va_up, true_and]
  · simp only [if_neg h, h, false_and, if_false]
theorem nar_byte (x : Int32) : vp_nar .byte x = x.toInt8.toInt32 := rfl
