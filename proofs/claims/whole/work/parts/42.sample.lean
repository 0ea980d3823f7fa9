/-! PURE: sample -/
theorem nI_div {a b : Nat} (ha : a < 2 ^ 31) (hb : b < 2 ^ 31) : nI a / nI b = nI (a / b) := by
  apply Int32.toInt_inj.mp
  have hd : a / b ≤ a := Nat.div_le_self a b
  rw [Int32.toInt_div, nI_toInt ha, nI_toInt hb, nI_toInt (by omega)]
  have e : ((a : Int).tdiv (b : Int)) = ((a / b : Nat) : Int) := by
    rw [Int.ofNat_tdiv]
  rw [e]
  generalize a / b = q at hd ⊢
  apply Int.bmod_eq_of_le <;> omega
theorem nI_rem {a b : Nat} (ha : a < 2 ^ 31) (hb : b < 2 ^ 31) : nI a - nI a / nI b * nI b = nI (a % b) := by
  have h := Nat.div_add_mod a b
  have h2 : a / b * b ≤ a := Nat.div_mul_le_self a b
  rw [nI_div ha hb, nI_mul, nI_sub h2]
  congr 1
  rw [Nat.mul_comm] at h
  omega
theorem xor_nn {a b : Nat} (ha : a < 2 ^ 31) (hb : b < 2 ^ 31) : 0 ≤ nI a ^^^ nI b := by
  have e : nI a ^^^ nI b = nI (a ^^^ b) := by
    apply Int32.toBitVec_inj.mp
    apply BitVec.eq_of_toNat_eq
    have h1 : (nI a).toBitVec.toNat = a := by
      show (BitVec.ofNat 32 a).toNat = a
      rw [BitVec.toNat_ofNat]
      exact Nat.mod_eq_of_lt (by omega)
    have h2 : (nI b).toBitVec.toNat = b := by
      show (BitVec.ofNat 32 b).toNat = b
      rw [BitVec.toNat_ofNat]
      exact Nat.mod_eq_of_lt (by omega)
    have h4 : a ^^^ b < 2 ^ 31 := Nat.xor_lt_two_pow ha hb
    have h3 : (nI (a ^^^ b)).toBitVec.toNat = a ^^^ b := by
      show (BitVec.ofNat 32 (a ^^^ b)).toNat = a ^^^ b
      rw [BitVec.toNat_ofNat]
      exact Nat.mod_eq_of_lt (by omega)
    rw [Int32.toBitVec_xor, BitVec.toNat_xor, h1, h2, h3]
  rw [e]
  exact nI_pos' (Nat.xor_lt_two_pow ha hb)
theorem floorMod_eq {a : Nat} (ha : a < 2 ^ 31) (S : mM) : f_J9_floorMod_7cf53 (nI a) (256 : Int32) S = some (nI (a % 256), S) := by
  unfold f_J9_floorMod_7cf53
  rw [if_pos (by decide), show (256 : Int32) = nI 256 from rfl, nI_rem ha (by omega)]
  simp only [bnd]
  rw [if_pos (xor_nn ha (by omega))]
theorem ring_get {S : mM} {k : Nat} (hk : k < 2 ^ 31) : f_X2_get (nI k) S = some (S.1 9 (k % 256), S) := by
  unfold f_X2_get
  rw [floorMod_eq hk, mBind_of, if_pos (ix (show k % 256 < 256 by omega) (by omega)), nI_clamp (by omega)]
theorem oldest_eq {S : mM} {N : Nat} (hN : N < 2 ^ 31) (h : S.1 8 1 = nI N) : f_X2_oldest S = some (nI (N - 256), S) := by
  unfold f_X2_oldest f_J9_max_7cf53
  rw [h]
  by_cases q : N ≤ 256
  · have e : ¬ (0 : Int32) < nI N - (256 : Int32) := by
      intro z
      rw [Int32.lt_iff_toInt_lt] at z
      have h2 : (nI N - (256 : Int32)).toInt = (N : Int) - 256 := by
        rw [Int32.toInt_sub, nI_toInt hN, show (256 : Int32).toInt = 256 by decide]
        apply Int.bmod_eq_of_le <;> omega
      have h3 : (0 : Int32).toInt = 0 := by decide
      omega
    rw [if_neg e, mBind_of, show N - 256 = 0 by omega]
    rfl
  · have e : nI N - (256 : Int32) = nI (N - 256) := nI_sub (a := N) (b := 256) (by omega)
    rw [e, if_pos (show (0 : Int32) < nI (N - 256) from nI_lt (a := 0) (by omega) (by omega)), mBind_of]
theorem ring_has {S : mM} {N : Nat} (hN : N < 2 ^ 31) (h : S.1 8 1 = nI N) (p : Int32) : f_X2_has p S = some (if ∃ k, k < N ∧ N ≤ k + 256 ∧ p = nI k then 1 else 0, S) := by
  unfold f_X2_has
  rw [oldest_eq hN h, mBind_of, isIn_eq, mBind_of, if_pos b01', h]
  have e : (nI (N - 256) ≤ p ∧ p ≤ nI N - 1) ↔ ∃ k, k < N ∧ N ≤ k + 256 ∧ p = nI k := by
    constructor
    · rintro ⟨a, b⟩
      have h0 : 0 ≤ p := by
        have z := nI_pos' (show N - 256 < 2 ^ 31 by omega)
        rw [Int32.le_iff_toInt_le] at a z ⊢
        omega
      obtain ⟨k, hk, rfl⟩ := (below hN).mp ⟨h0, b⟩
      rw [nI_leI (by omega) (by omega)] at a
      exact ⟨k, hk, by omega, rfl⟩
    · rintro ⟨k, hk, h2, rfl⟩
      exact ⟨nI_le (by omega) (by omega), ((below hN).mpr ⟨k, hk, rfl⟩).2⟩
  simp only [e]
theorem ag_sample (c : Nat) (p t : Int32) : Ag c (f_X11_sample p t) (f_X12_sample p t) := fun hc S h => by
  obtain ⟨p0, N, cnt, h1, h2, h3, h4, h5, h6, h7, h8, h9, h10, h11⟩ := h.2.2.1
  have hN : N < 33000 := by omega
  suffices hs : ∃ r, f_X11_sample p t S = some (r, S) ∧ f_X12_sample p t S = some (r, S) by
    obtain ⟨r, a, b⟩ := hs
    exact ⟨r, S, S, a, b, h.mono (by omega)⟩
  unfold f_X11_sample f_X12_sample
  rw [isTrace_eq, mBind_of, in_eq, mBind_of]
  simp only [b01, l0, l3]
  by_cases ht : 0 ≤ t ∧ t ≤ 3
  · rw [if_nn ht, if_nn ht, ring_has (by omega) h8, mBind_of, h9]
    by_cases hk : ∃ k, k < N ∧ N ≤ k + 256 ∧ p = nI k
    · rw [if_pos hk]
      obtain ⟨k, k1, k2, rfl⟩ := hk
      have q1 : ¬ nI k < nI N - (256 : Int32) := by
        have z : (nI N - (256 : Int32)).toInt = (N : Int) - 256 := by
          rw [Int32.toInt_sub, nI_toInt (by omega), show (256 : Int32).toInt = 256 by decide]
          apply Int.bmod_eq_of_le <;> omega
        rw [Int32.lt_iff_toInt_lt, z, nI_toInt (by omega)]
        omega
      rw [if_neg (by decide), ring_get (by omega), mBind_of, if_neg (nI_pos (by omega)), if_neg q1, if_neg (nI_ge k1 (by omega))]
      unfold f_X11_numberOn f_X12_of
      rw [mBind_of, if_pos (ix (show k < 33000 by omega) (by omega)), nI_clamp (by omega), mBind_of, h10 k k1 k2]
      exact ⟨_, rfl, rfl⟩
    · rw [if_neg hk, if_pos rfl]
      refine ⟨1000, rfl, ?_⟩
      by_cases a1 : p < 0
      · rw [if_pos a1]
      · rw [if_neg a1]
        by_cases a2 : p < nI N - (256 : Int32)
        · rw [if_pos a2]
        · rw [if_neg a2]
          by_cases a3 : nI N ≤ p
          · rw [if_pos a3]
          · exfalso
            obtain ⟨k, hk31, rfl⟩ := nI_of a1
            rw [nI_leI (by omega) hk31] at a3
            apply hk
            refine ⟨k, by omega, ?_, rfl⟩
            have z : (nI N - (256 : Int32)).toInt = (N : Int) - 256 := by
              rw [Int32.toInt_sub, nI_toInt (by omega), show (256 : Int32).toInt = 256 by decide]
              apply Int.bmod_eq_of_le <;> omega
            rw [Int32.lt_iff_toInt_lt, z, nI_toInt hk31] at a2
            omega
  · rw [if_pos ht, if_pos ht]
    exact ⟨_, rfl, rfl⟩
