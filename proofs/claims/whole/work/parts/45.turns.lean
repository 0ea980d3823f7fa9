/-! PURE: turns -/
theorem turns_loop {S : mM} {r n : Nat} {lv : Int64} {w : Int32} (hr : r < 4) (hn : n ≤ 201) (h2 : S.1 (54 + 3 * r) 2 = nI n) (h3 : S.1 91 r = nI n)
    (h4 : ∀ i, i < n → S.2.1 (55 + 3 * r) i = S.2.1 92 (201 * r + i) ∧ S.1 (56 + 3 * r) i = S.1 93 (201 * r + i) ∧ (S.1 93 (201 * r + i) = 0 ∨ (S.1 93 (201 * r + i) = 1 ∧ S.2.1 92 (201 * r + i) = 0))) :
    ∀ (m i f f' : Nat) (t l g n' a b h : Int32), i + m = n → m < f → m < f' → ∃ R, f_X3_measureTurns_25 f (54 + 3 * r) lv w t l g n' a b h (nI i) S = some (R, S) ∧ f_X12_turns_48 f' (nI r) lv w t l g n' a b h (nI i) S = some (R, S) := by
  intro m
  have r4 : 0 ≤ nI r ∧ (nI r).toNatClampNeg < 4 := ix (by omega) (by omega)
  have cr : (nI r).toNatClampNeg = r := nI_clamp (by omega)
  have e1 : 54 + 3 * r + 1 = 55 + 3 * r := by omega
  have e2 : 54 + 3 * r + 2 = 56 + 3 * r := by omega
  induction m with
  | zero =>
    intro i f f' t l g n' a b h hm hf hf'
    obtain ⟨f, rfl⟩ : ∃ g, f = g + 1 := ⟨f - 1, by omega⟩
    obtain ⟨f', rfl⟩ : ∃ g, f' = g + 1 := ⟨f' - 1, by omega⟩
    have hle : nI n ≤ nI i := nI_le (by omega) (by omega)
    unfold f_X3_measureTurns_25 f_X12_turns_48
    rw [h2, if_pos hle, if_pos r4, cr, h3, if_pos hle]
    by_cases w0 : w = 0
    · rw [if_pos w0]; exact ⟨_, rfl, rfl⟩
    rw [if_neg w0]
    by_cases w1 : w = 1
    · rw [if_pos w1]; exact ⟨_, rfl, rfl⟩
    rw [if_neg w1]
    by_cases w2 : w = 2
    · rw [if_pos w2]; exact ⟨_, rfl, rfl⟩
    rw [if_neg w2]
    by_cases w3 : w = 3
    · rw [if_pos w3]; exact ⟨_, rfl, rfl⟩
    rw [if_neg w3]
    exact ⟨_, rfl, rfl⟩
  | succ m ih =>
    intro i f f' t l g n' a b h hm hf hf'
    obtain ⟨f, rfl⟩ : ∃ g, f = g + 1 := ⟨f - 1, by omega⟩
    obtain ⟨f', rfl⟩ : ∃ g, f' = g + 1 := ⟨f' - 1, by omega⟩
    have hge : ¬ nI n ≤ nI i := nI_ge (by omega) (by omega)
    obtain ⟨a1, a2, a3⟩ := h4 i (by omega)
    have i201 : 0 ≤ nI i ∧ (nI i).toNatClampNeg < 201 := ix (by omega) (by omega)
    have i201c : 0 ≤ nI i ∧ i < 201 := ixc (by omega) (by omega)
    have i804 : 0 ≤ nI (201 * r + i) ∧ (nI (201 * r + i)).toNatClampNeg < 804 := ix (by omega) (by omega)
    have i804c : 0 ≤ nI (201 * r + i) ∧ 201 * r + i < 804 := ixc (by omega) (by omega)
    have ci : (nI i).toNatClampNeg = i := nI_clamp (by omega)
    have cx : (nI (201 * r + i)).toNatClampNeg = 201 * r + i := nI_clamp (by omega)
    -- the end of a step without a gap
    have tail : ∀ (t l g n' a b h : Int32), S.1 93 (201 * r + i) = 0 → ∃ R, f_X3_measureTurns_127 (f_X3_measureTurns_25 f) (54 + 3 * r) lv w t l g n' a b h (nI i) S = some (R, S) ∧ f_X12_turns_204 (f_X12_turns_48 f') (nI r) lv w t l g n' a b h (nI i) (nI (201 * r + i)) S = some (R, S) := by
      intro t l g n' a b h hg
      unfold f_X3_measureTurns_127 f_X12_turns_204
      rw [if_pos i201, ci, e2, a2, if_pos hg, if_pos i201c, e1, a1, if_pos i804, cx]
      by_cases q : lg_cmp (S.2.1 92 (201 * r + i)) lv < 0
      · rw [if_pos q, if_pos q]
        simp only [bnd, nI_1, Int32.add_zero]
        exact ih (i + 1) f f' t l g n' a b h (by omega) (by omega) (by omega)
      · rw [if_neg q, if_neg q]
        simp only [bnd, nI_1]
        exact ih (i + 1) f f' t l g n' a b (h + 1) (by omega) (by omega) (by omega)
    unfold f_X3_measureTurns_25 f_X12_turns_48
    rw [h2, if_neg hge, if_pos i201, ci, e2, a2, if_pos r4, cr, h3, if_neg hge, rowAt]
    simp only [bnd]
    rw [if_pos i804, cx]
    rcases a3 with a3 | ⟨a3, -⟩
    · rw [if_pos a3, if_pos a3]
      unfold f_X3_comesTo
      by_cases i0 : i = 0
      · subst i0
        have le0 : nI 0 ≤ 0 := by decide
        rw [if_pos le0, mBind_of, if_pos rfl, if_pos le0]
        exact tail t l g n' a b h a3
      · obtain ⟨j, rfl⟩ : ∃ j, i = j + 1 := ⟨i - 1, by omega⟩
        have nle : ¬ nI (j + 1) ≤ 0 := nI_nle (by omega) (by omega)
        obtain ⟨b1, b2, -⟩ := h4 j (by omega)
        have j201 : 0 ≤ nI j ∧ (nI j).toNatClampNeg < 201 := ix (by omega) (by omega)
        have j201c : 0 ≤ nI j ∧ j < 201 := ixc (by omega) (by omega)
        have ej : nI (201 * r + (j + 1)) - 1 = nI (201 * r + j) := nI_pred (201 * r + j)
        have j804 : 0 ≤ nI (201 * r + j) ∧ (nI (201 * r + j)).toNatClampNeg < 804 := ix (by omega) (by omega)
        have j804c : 0 ≤ nI (201 * r + j) ∧ 201 * r + j < 804 := ixc (by omega) (by omega)
        have cj : (nI j).toNatClampNeg = j := nI_clamp (by omega)
        have cxj : (nI (201 * r + j)).toNatClampNeg = 201 * r + j := nI_clamp (by omega)
        rw [if_neg nle, if_neg nle, nI_pred, if_pos j201, cj, e2, b2, ej, if_pos j804, cxj]
        by_cases gj : S.1 93 (201 * r + j) = 0
        · rw [if_pos gj, if_pos gj, if_pos i201, ci, a2, if_pos a3, if_pos j201c, e1, b1, if_pos j804c]
          by_cases q1 : 0 ≤ lg_cmp (S.2.1 92 (201 * r + j)) lv
          · rw [if_pos q1, if_pos q1, mBind_of, if_pos rfl]
            exact tail t l g n' a b h a3
          · rw [if_neg q1, if_neg q1, if_pos i201c, if_pos i804c, a1]
            by_cases q2 : lg_cmp (S.2.1 92 (201 * r + (j + 1))) lv < 0
            · rw [if_pos q2, if_pos q2, mBind_of, if_pos rfl]
              exact tail t l g n' a b h a3
            · rw [if_neg q2, if_neg q2, mBind_of, if_neg (by decide)]
              by_cases q3 : b = -4
              · rw [if_pos q3, if_pos q3]
                exact tail t l g n' a (nI (j + 1)) 0 a3
              · rw [if_neg q3, if_neg q3]
                unfold f_X3_measureTurns_92 f_X12_turns_155 f_X12_turns_162 f_X12_turns_178 f_J9_max_7cf53 f_J9_min_7cf53
                simp only [bnd]
                generalize nI (j + 1) - b = z
                have mx : ∀ (l' : Int32), ∃ R, (mBind (if g < z then some (z, S) else some (g, S)) fun r1 S2 => f_X3_measureTurns_120 (f_X3_measureTurns_25 f) (54 + 3 * r) lv w (t + 1) l' r1 (n' + z) (a + h) (nI (j + 1)) S2) = some (R, S) ∧ (if z ≤ g then f_X12_turns_197 (f_X12_turns_48 f') (nI r) lv w (t + 1) l' g (n' + z) (a + h) (nI (j + 1)) (nI (201 * r + (j + 1))) S else f_X12_turns_197 (f_X12_turns_48 f') (nI r) lv w (t + 1) l' z (n' + z) (a + h) (nI (j + 1)) (nI (201 * r + (j + 1))) S) = some (R, S) := by
                  intro l'
                  by_cases u : g < z
                  · rw [if_pos u, mBind_of, if_neg (Int32.not_le.mpr u)]
                    exact tail (t + 1) l' z (n' + z) (a + h) (nI (j + 1)) 0 a3
                  · rw [if_neg u, mBind_of, if_pos (Int32.not_lt.mp u)]
                    exact tail (t + 1) l' g (n' + z) (a + h) (nI (j + 1)) 0 a3
                by_cases t0 : t = 0
                · rw [if_pos t0, if_pos t0]
                  exact mx z
                · rw [if_neg t0, if_neg t0]
                  by_cases u : z < l
                  · rw [if_pos u, mBind_of, if_neg (Int32.not_le.mpr u)]
                    exact mx z
                  · rw [if_neg u, mBind_of, if_pos (Int32.not_lt.mp u)]
                    exact mx l
        · rw [if_neg gj, if_neg gj, mBind_of, if_pos rfl]
          exact tail t l g n' a b h a3
    · have g1 : ¬ S.1 93 (201 * r + i) = 0 := by rw [a3]; decide
      rw [if_neg g1, if_neg g1]
      unfold f_X3_measureTurns_127
      rw [if_pos i201, ci, e2, a2, if_neg g1]
      simp only [bnd, nI_1]
      exact ih (i + 1) f f' t l g n' a (-4) h (by omega) (by omega) (by omega)
theorem ag_turns (c : Nat) (p : Int32) (lv : Int64) (w : Int32) : Ag c (f_X11_turns p lv w) (f_X12_turns p lv w) := Ag.read (fun S h => by
  unfold f_X11_turns f_X12_turns
  rcases row_cases h.2.2.2.2.2.1 p with ⟨hp, e1, e2⟩ | ⟨r, n, hr, rfl, hp, hn, h2, h3, h4, e1, e2⟩
  · rw [e1, e2, mBind_of, mBind_of]
    exact ⟨_, rfl, rfl⟩
  · by_cases h0 : n = 0
    · simp only [h0, if_true] at e1 e2
      rw [e1, e2, mBind_of, mBind_of]
      exact ⟨_, rfl, rfl⟩
    · simp only [h0, if_false] at e1 e2 h3
      have e54 : 53 + 1 + 3 * r = 54 + 3 * r := by omega
      rw [e1, e2, mBind_of, mBind_of]
      simp only [show ¬ (1 : Int32) = 0 by decide, if_false, isIn_eq, in_eq, mBind_of, b01, l0, l4]
      by_cases g1 : 0 ≤ w ∧ w ≤ 4
      · simp only [if_nn g1]
        rw [if_pos (ix (show r < 4 by omega) (by omega)), nI_clamp (by omega)]
        simp only [bnd, e54]
        obtain ⟨R, k1, k2⟩ := turns_loop (lv := lv) (w := w) hr hn h2 h3 h4 n 0 mFuel mFuel 0 0 0 0 0 (-4) 0 (by omega) (by unfold mFuel; omega) (by unfold mFuel; omega)
        have k1 : f_X3_measureTurns (54 + 3 * r) lv w S = some (R, S) := k1
        rw [k1, mBind_of]
        exact ⟨R, rfl, k2⟩
      · simp only [if_pos g1]
        exact ⟨_, rfl, rfl⟩)
