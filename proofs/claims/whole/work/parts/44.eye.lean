/-! PURE: eye -/
theorem eye_loop {S : mM} {r n k : Nat} {y2 y3 y4 y8 : Int32} {y5 : Int64} (hr : r < 4) (hn : n ≤ 201) (hk1 : 1 ≤ k) (hk2 : k < 2 ^ 31) (h2 : S.1 (54 + 3 * r) 2 = nI n) (h3 : S.1 91 r = nI n)
    (h4 : ∀ i, i < n → S.2.1 (55 + 3 * r) i = S.2.1 92 (201 * r + i) ∧ S.1 (56 + 3 * r) i = S.1 93 (201 * r + i) ∧ (S.1 93 (201 * r + i) = 0 ∨ (S.1 93 (201 * r + i) = 1 ∧ S.2.1 92 (201 * r + i) = 0))) (hy : ¬ y3 = 0) :
    ∀ (m i f f' : Nat) (acc : Int32), n ≤ i + m → i < 2 ^ 31 → m < f → m < f' → ∃ R, f_X11_eye_75 f y2 y3 y4 y5 (nI k) y8 (54 + 3 * r) acc (nI i) S = some (R, S) ∧ f_X12_eye_72 f' (nI r) y2 y3 y4 y5 (nI k) y8 acc (nI i) S = some (R, S) := by
  intro m
  have r4 : 0 ≤ nI r ∧ (nI r).toNatClampNeg < 4 := ix (by omega) (by omega)
  have cr : (nI r).toNatClampNeg = r := nI_clamp (by omega)
  induction m with
  | zero =>
    intro i f f' acc hm hi hf hf'
    obtain ⟨f, rfl⟩ : ∃ g, f = g + 1 := ⟨f - 1, by omega⟩
    obtain ⟨f', rfl⟩ : ∃ g, f' = g + 1 := ⟨f' - 1, by omega⟩
    refine ⟨acc, ?_, ?_⟩
    · unfold f_X11_eye_75
      rw [h2, if_pos (nI_le (by omega) hi)]
    · unfold f_X12_eye_72
      rw [if_pos r4, cr, h3, if_pos (nI_le (by omega) hi)]
  | succ m ih =>
    intro i f f' acc hm hi hf hf'
    obtain ⟨f, rfl⟩ : ∃ g, f = g + 1 := ⟨f - 1, by omega⟩
    obtain ⟨f', rfl⟩ : ∃ g, f' = g + 1 := ⟨f' - 1, by omega⟩
    by_cases hin : n ≤ i
    · refine ⟨acc, ?_, ?_⟩
      · unfold f_X11_eye_75
        rw [h2, if_pos (nI_le hin hi)]
      · unfold f_X12_eye_72
        rw [if_pos r4, cr, h3, if_pos (nI_le hin hi)]
    · have hge : ¬ nI n ≤ nI i := nI_ge (by omega) (by omega)
      obtain ⟨a1, a2, a3⟩ := h4 i (by omega)
      have e1 : 54 + 3 * r + 1 = 55 + 3 * r := by omega
      have e2 : 54 + 3 * r + 2 = 56 + 3 * r := by omega
      have i201 : 0 ≤ nI i ∧ (nI i).toNatClampNeg < 201 := ix (by omega) (by omega)
      have i201c : 0 ≤ nI i ∧ i < 201 := ixc (by omega) (by omega)
      have i804 : 0 ≤ nI (201 * r + i) ∧ (nI (201 * r + i)).toNatClampNeg < 804 := ix (by omega) (by omega)
      have i804c : 0 ≤ nI (201 * r + i) ∧ 201 * r + i < 804 := ixc (by omega) (by omega)
      have ci : (nI i).toNatClampNeg = i := nI_clamp (by omega)
      have cx : (nI (201 * r + i)).toNatClampNeg = 201 * r + i := nI_clamp (by omega)
      have hb : ∃ k', k' < n ∧ nI i = nI k' := ⟨i, by omega, rfl⟩
      have hk1' : (1 : Int32) ≤ nI k := nI_le (a := 1) hk1 hk2
      unfold f_X11_eye_75 f_X12_eye_72
      rw [h2, if_neg hge, if_pos hy, if_pos r4, cr, h3, if_neg hge, rowAt]
      simp only [bnd]
      rw [if_pos hy]
      by_cases hmod : ((nI i - y2) - (nI i - y2) / y3 * y3) = y4
      · rw [if_pos hmod, if_pos hmod, if_pos i804, cx]
        unfold f_X3_isInBand
        rw [isIn_eq, mBind_of, h2, if_neg (fun z => b01.mp z ((below (by omega)).mpr hb)), if_pos i201, ci, e2, a2]
        rcases a3 with a3 | ⟨a3, -⟩
        · rw [if_pos a3, if_pos a3, if_pos hk1', if_pos i201c, if_pos i804c, e1, a1, fd_eq hk1 hk2]
          obtain ⟨q, hq⟩ : ∃ q, f_X12_down (S.2.1 92 (201 * r + i) - y5) (nI k) S = some (q, S) := by
            unfold f_X12_down
            have hz : ¬ (nI k).toInt64 = 0 := by
              rw [nI_l hk2]
              intro z
              have := lN_toInt hk2
              rw [z, show (0 : Int64).toInt = 0 by decide] at this
              omega
            rw [if_pos hz]
            simp only [bnd, if_pos hz]
            by_cases z : 0 ≤ lg_cmp (S.2.1 92 (201 * r + i) - y5 - (S.2.1 92 (201 * r + i) - y5) / (nI k).toInt64 * (nI k).toInt64) 0
            · exact ⟨_, if_pos z⟩
            · exact ⟨_, if_neg z⟩
          rw [hq, mBind_of, mBind_of]
          by_cases hc : lg_cmp q y8.toInt64 = 0
          · rw [if_pos hc, if_pos hc, mBind_of, if_neg (by decide), nI_1]
            exact ih (i + 1) f f' (acc + 1) (by omega) (by omega) (by omega) (by omega)
          · rw [if_neg hc, if_neg hc, mBind_of, if_pos rfl, nI_1, Int32.add_zero]
            exact ih (i + 1) f f' acc (by omega) (by omega) (by omega) (by omega)
        · have g1 : ¬ S.1 93 (201 * r + i) = 0 := by rw [a3]; decide
          rw [if_neg g1, if_neg g1, mBind_of, if_pos rfl, nI_1, Int32.add_zero]
          exact ih (i + 1) f f' acc (by omega) (by omega) (by omega) (by omega)
      · rw [if_neg hmod, if_neg hmod, nI_1, Int32.add_zero]
        exact ih (i + 1) f f' acc (by omega) (by omega) (by omega) (by omega)
theorem l32 (p : Int32) : p.toInt64 ≤ (32 : Int64) ↔ p ≤ 32 := by rw [show (32 : Int64) = (32 : Int32).toInt64 by decide, l_le]
theorem l1000 (p : Int32) : p.toInt64 ≤ (1000 : Int64) ↔ p ≤ 1000 := by rw [show (1000 : Int64) = (1000 : Int32).toInt64 by decide, l_le]
theorem l15 (p : Int32) : p.toInt64 ≤ (15 : Int64) ↔ p ≤ 15 := by rw [show (15 : Int64) = (15 : Int32).toInt64 by decide, l_le]
theorem pos_of1 {p : Int32} (h : 1 ≤ p) : ∃ k, 1 ≤ k ∧ k < 2 ^ 31 ∧ p = nI k := by
  have h0 : ¬ p < 0 := by
    rw [Int32.le_iff_toInt_le] at h
    rw [Int32.lt_iff_toInt_lt]
    have e1 : (1 : Int32).toInt = 1 := by decide
    have e0 : (0 : Int32).toInt = 0 := by decide
    omega
  obtain ⟨k, hk, rfl⟩ := nI_of h0
  exact ⟨k, (nI_leI (a := 1) (by omega) hk).mp h, hk, rfl⟩
theorem ag_eye (c : Nat) (p1 p2 p3 p4 : Int32) (p5 : Int64) (p7 p8 : Int32) : Ag c (f_X11_eye p1 p2 p3 p4 p5 p7 p8) (f_X12_eye p1 p2 p3 p4 p5 p7 p8) := Ag.read (fun S h => by
  unfold f_X11_eye f_X12_eye
  rcases row_cases h.2.2.2.2.2.1 p1 with ⟨hp, e1, e2⟩ | ⟨r, n, hr, rfl, hp, hn, h2, h3, h4, e1, e2⟩
  · rw [e1, e2, mBind_of, mBind_of]
    exact ⟨_, rfl, rfl⟩
  · by_cases h0 : n = 0
    · simp only [h0, if_true] at e1 e2
      rw [e1, e2, mBind_of, mBind_of]
      exact ⟨_, rfl, rfl⟩
    · simp only [h0, if_false] at e1 e2 h3
      have e54 : 53 + 1 + 3 * r = 54 + 3 * r := by omega
      rw [e1, e2, mBind_of, mBind_of]
      simp only [show ¬ (1 : Int32) = 0 by decide, if_false, isIn_eq, in_eq, mBind_of, b01, l0, l1', l32, l1000, l15, l_le]
      by_cases g0 : p2 < 0
      · simp only [if_pos g0]
        exact ⟨_, rfl, rfl⟩
      · simp only [if_neg g0]
        by_cases g1 : 1 ≤ p3 ∧ p3 ≤ 32
        · simp only [if_nn g1]
          by_cases g2 : 0 ≤ p4 ∧ p4 ≤ p3 - 1
          · simp only [if_nn g2]
            by_cases g3 : 1 ≤ p7 ∧ p7 ≤ 1000
            · simp only [if_nn g3]
              by_cases g4 : 0 ≤ p8 ∧ p8 ≤ 15
              · simp only [if_nn g4]
                rw [if_pos (ix (show r < 4 by omega) (by omega)), nI_clamp (by omega)]
                simp only [bnd, e54]
                obtain ⟨a, ha, rfl⟩ := nI_of g0
                obtain ⟨k, k1, k2, rfl⟩ := pos_of1 g3.1
                obtain ⟨q, q1, q2, rfl⟩ := pos_of1 g1.1
                exact eye_loop hr hn k1 k2 h2 h3 h4 (nI_ne0 (by omega) q2) 201 a mFuel mFuel 0 (by omega) ha (by unfold mFuel; omega) (by unfold mFuel; omega)
              · simp only [if_pos g4]
                exact ⟨_, rfl, rfl⟩
            · simp only [if_pos g3]
              exact ⟨_, rfl, rfl⟩
          · simp only [if_pos g2]
            exact ⟨_, rfl, rfl⟩
        · simp only [if_pos g1]
          exact ⟨_, rfl, rfl⟩)
