/-! PURE: the two divisions -/
theorem tdiv_bounds {V K : Int} (hK : 1 ≤ K) (h1 : -2 ^ 63 ≤ V) (h2 : V < 2 ^ 63) : (-2 ^ 63 ≤ V.tdiv K ∧ V.tdiv K < 2 ^ 63) ∧ (-2 ^ 63 ≤ V.tdiv K * K ∧ V.tdiv K * K < 2 ^ 63) ∧ V - V.tdiv K * K = V.tmod K ∧ (0 ≤ V → 0 ≤ V.tmod K) ∧ (V < 0 → V.tmod K ≤ 0) ∧ (V.tmod K < K ∧ -K < V.tmod K) := by
  have e : V.tmod K + K * V.tdiv K = V := Int.tmod_add_mul_tdiv V K
  have e2 : K * V.tdiv K = V.tdiv K * K := Int.mul_comm _ _
  have hlt : V.tmod K < K := Int.tmod_lt_of_pos V (by omega)
  have hgt : -K < V.tmod K := by
    have := Int.tmod_lt_of_pos (-V) (show 0 < K by omega)
    rw [Int.neg_tmod] at this
    omega
  rcases Int.lt_or_le V 0 with hn | hp
  · have hm : 0 ≤ (-V).tmod K := Int.tmod_nonneg K (by omega)
    rw [Int.neg_tmod] at hm
    have hq : 0 ≤ (-V).tdiv K := Int.tdiv_nonneg (by omega) (by omega)
    rw [Int.neg_tdiv] at hq
    have hb : 1 * (-(V.tdiv K)) ≤ K * (-(V.tdiv K)) := Int.mul_le_mul_of_nonneg_right hK hq
    have hb2 : K * -(V.tdiv K) = -(V.tdiv K * K) := by rw [Int.mul_neg, Int.mul_comm]
    refine ⟨⟨by omega, by omega⟩, ⟨by omega, by omega⟩, by omega, fun _ => by omega, fun _ => by omega, hlt, hgt⟩
  · have hm : 0 ≤ V.tmod K := Int.tmod_nonneg K hp
    have hq : 0 ≤ V.tdiv K := Int.tdiv_nonneg hp (by omega)
    have hb : 1 * (V.tdiv K) ≤ K * (V.tdiv K) := Int.mul_le_mul_of_nonneg_right hK hq
    refine ⟨⟨by omega, by omega⟩, ⟨by omega, by omega⟩, by omega, fun _ => hm, fun _ => by omega, hlt, hgt⟩
theorem xor_sign (v D : Int64) (hD : 0 ≤ D) : 0 ≤ v ^^^ D ↔ 0 ≤ v := by
  have key : ∀ x : Int64, 0 ≤ x ↔ x.toBitVec.msb = false := fun x => by
    rw [Int64.le_iff_toInt_le, show (0 : Int64).toInt = 0 by decide, BitVec.msb_eq_toInt]
    show 0 ≤ x.toBitVec.toInt ↔ _
    simp only [decide_eq_false_iff_not]
    omega
  rw [key] at hD
  rw [key, key, Int64.toBitVec_xor, BitVec.msb_xor, hD]
  simp
theorem fd_eq {k : Nat} (h1 : 1 ≤ k) (h2 : k < 2 ^ 31) (v : Int64) (S : mM) : f_J9_floorDiv_f86c9 v (nI k).toInt64 S = f_X12_down v (nI k) S := by
  unfold f_J9_floorDiv_f86c9 f_X12_down
  rw [nI_l h2]
  have hz : ¬ lN k = 0 := by
    intro q
    have := lN_toInt h2
    rw [q, show (0 : Int64).toInt = 0 by decide] at this
    omega
  rw [if_pos hz, if_pos hz]
  simp only [bnd, lg_cmp_ge, lg_cmp_eq, if_pos hz]
  obtain ⟨⟨a1, a2⟩, ⟨b1, b2⟩, c1, c2, c3, c4, c5⟩ := tdiv_bounds (V := v.toInt) (K := (k : Int)) (by omega) (by have := Int64.le_toInt v; omega) (by have := Int64.toInt_lt v; omega)
  have d1 : (v / lN k).toInt = v.toInt.tdiv k := by
    rw [Int64.toInt_div, lN_toInt h2]
    apply Int.bmod_eq_of_le <;> omega
  have d2 : (v / lN k * lN k).toInt = v.toInt.tdiv k * k := by
    rw [Int64.toInt_mul, d1, lN_toInt h2]
    apply Int.bmod_eq_of_le <;> omega
  have d3 : (v - v / lN k * lN k).toInt = v.toInt.tmod k := by
    rw [Int64.toInt_sub, d2, c1]
    apply Int.bmod_eq_of_le <;> omega
  have e0 : (0 : Int64).toInt = 0 := by decide
  have hD : 0 ≤ lN k := by rw [Int64.le_iff_toInt_le, e0, lN_toInt h2]; omega
  have hr : (0 ≤ v - v / lN k * lN k) ↔ 0 ≤ v.toInt.tmod k := by rw [Int64.le_iff_toInt_le, e0, d3]
  have hx := xor_sign v (lN k) hD
  by_cases hv : 0 ≤ v
  · have hv' : 0 ≤ v.toInt := by rw [Int64.le_iff_toInt_le, e0] at hv; exact hv
    rw [if_pos (hx.mpr hv), if_pos (hr.mpr (c2 hv'))]
  · have hv' : v.toInt < 0 := by rw [Int64.le_iff_toInt_le, e0] at hv; omega
    rw [if_neg (fun z => hv (hx.mp z))]
    by_cases q : v / lN k * lN k = v
    · have q' := congrArg Int64.toInt q
      rw [d2] at q'
      rw [if_pos q, if_pos (hr.mpr (by omega))]
    · have q' : ¬ v.toInt.tdiv k * k = v.toInt := fun z => q (Int64.toInt_inj.mp (d2.trans z))
      have := c3 hv'
      rw [if_neg q, if_neg (fun z => by have := hr.mp z; omega)]
