/-! PURE: eye -/
theorem eye_loop {S : mM} {r n k : Nat} {y2 y3 y4 y8 : Int32} {y5 : Int64} (hr : r < 4) (hn : n ≤ 201) (hk1 : 1 ≤ k) (hk2 : k < 2 ^ 31) (h2 : S.1 (54 + 3 * r) 2 = nI n) (h3 : S.1 91 r = nI n)
    (h4 : ∀ i, i < n → S.2.1 (55 + 3 * r) i = S.2.1 92 (201 * r + i) ∧ S.1 (56 + 3 * r) i = S.1 93 (201 * r + i) ∧ (S.1 93 (201 * r + i) = 0 ∨ (S.1 93 (201 * r + i) = 1 ∧ S.2.1 92 (201 * r + i) = 0))) (hy : ¬ y3 = 0) :
    ∀ (m i f f' : Nat) (acc : Int32), n ≤ i + m → i < 2 ^ 31 → m < f → m < f' → ∃ R, f_X11_eye_75 f y2 y3 y4 y5 (nI k) y8 (54 + 3 * r) acc (nI i) S = some (R, S) ∧ f_X12_eye_72 f' (nI r) y2 y3 y4 y5 (nI k) y8 acc (nI i) S = some (R, S) := by
  intro m
  have r4 : 0 ≤ nI r ∧ (nI r).toNatClampNeg < 4 := ix (by omega) (by omega)
  have cr : (nI r).toNatClampNeg = r := nI_clamp (by omega)
  induction m with
  | zero =>
    intro i f f' acc hm hi hf hf'
    obtain ⟨f, rfl⟩ : ∃ g, f = g + 1 := ⟨f - 1, by omega⟩
    obtain ⟨f', rfl⟩ : ∃ g, f' = g + 1 := ⟨f' - 1, by omega⟩
    refine ⟨acc, ?_, ?_⟩
    · unfold f_X11_eye_75
      rw [h2, if_pos (nI_le (by omega) hi)]
    · unfold f_X12_eye_72
      rw [if_pos r4, cr, h3, if_pos (nI_le (by omega) hi)]
  | succ m ih =>
    intro i f f' acc hm hi hf hf'
    obtain ⟨f, rfl⟩ : ∃ g, f = g + 1 := ⟨f - 1, by omega⟩
    obtain ⟨f', rfl⟩ : ∃ g, f' = g + 1 := ⟨f' - 1, by omega⟩
    by_cases hin : n ≤ i
    · refine ⟨acc, ?_, ?_⟩
      · unfold f_X11_eye_75
        rw [h2, if_pos (nI_le hin hi)]
      · unfold f_X12_eye_72
        rw [if_pos r4, cr, h3, if_pos (nI_le hin hi)]
    · have hge : ¬ nI n ≤ nI i := nI_ge (by omega) (by omega)
      obtain ⟨a1, a2, a3⟩ := h4 i (by omega)
      have e1 : 54 + 3 * r + 1 = 55 + 3 * r := by omega
      have e2 : 54 + 3 * r + 2 = 56 + 3 * r := by omega
      have i201 : 0 ≤ nI i ∧ (nI i).toNatClampNeg < 201 := ix (by omega) (by omega)
      have i201c : 0 ≤ nI i ∧ i < 201 := ixc (by omega) (by omega)
      have i804 : 0 ≤ nI (201 * r + i) ∧ (nI (201 * r + i)).toNatClampNeg < 804 := ix (by omega) (by omega)
      have i804c : 0 ≤ nI (201 * r + i) ∧ 201 * r + i < 804 := ixc (by omega) (by omega)
      have ci : (nI i).toNatClampNeg = i := nI_clamp (by omega)
      have cx : (nI (201 * r + i)).toNatClampNeg = 201 * r + i := nI_clamp (by omega)
      have hb : ∃ k', k' < n ∧ nI i = nI k' := ⟨i, by omega, rfl⟩
      have hk1' : (1 : Int32) ≤ nI k := nI_le (a := 1) hk1 hk2
      unfold f_X11_eye_75 f_X12_eye_72
      rw [h2, if_neg hge, if_pos hy, if_pos r4, cr, h3, if_neg hge, rowAt]
      simp only [bnd]
      rw [if_pos hy]
      by_cases hmod : ((nI i - y2) - (nI i - y2) / y3 * y3) = y4
      · rw [if_pos hmod, if_pos hmod, if_pos i804, cx]
        unfold f_X3_isInBand
        rw [isIn_eq, mBind_of, h2, if_neg (fun z => b01.mp z ((below (by omega)).mpr hb)), if_pos i201, ci, e2, a2]
        rcases a3 with a3 | ⟨a3, -⟩
        · rw [if_pos a3, if_pos a3, if_pos hk1', if_pos i201c, if_pos i804c, e1, a1, fd_eq hk1 hk2]
          obtain ⟨q, hq⟩ : ∃ q, f_X12_down (S.2.1 92 (201 * r + i) - y5) (nI k) S = some (q, S) := by
            unfold f_X12_down
            have hz : ¬ (nI k).toInt64 = 0 := by
              rw [nI_l hk2]
              intro z
              have := lN_toInt hk2
              rw [z, show (0 : Int64).toInt = 0 by decide] at this
              omega
            rw [if_pos hz]
            simp only [bnd, if_pos hz]
            by_cases z : 0 ≤ lg_cmp (S.2.1 92 (201 * r + i) - y5 - (S.2.1 92 (201 * r + i) - y5) / (nI k).toInt64 * (nI k).toInt64) 0
            · exact ⟨_, if_pos z⟩
            · exact ⟨_, if_neg z⟩
          rw [hq, mBind_of, mBind_of]
          by_cases hc : lg_cmp q y8.toInt64 = 0
          · rw [if_pos hc, if_pos hc, mBind_of, if_neg (by decide), nI_1]
            exact ih (i + 1) f f' (acc + 1) (by omega) (by omega) (by omega) (by omega)
          · rw [if_neg hc, if_neg hc, mBind_of, if_pos rfl, nI_1, Int32.add_zero]
            exact ih (i + 1) f f' acc (by omega) (by omega) (by omega) (by omega)
        · have g1 : ¬ S.1 93 (201 * r + i) = 0 := by rw [a3]; decide
          rw [if_neg g1, if_neg g1, mBind_of, if_pos rfl, nI_1, Int32.add_zero]
          exact ih (i + 1) f f' acc (by omega) (by omega) (by omega) (by omega)
      · rw [if_neg hmod, if_neg hmod, nI_1, Int32.add_zero]
        exact ih (i + 1) f f' acc (by omega) (by omega) (by omega) (by omega)
