/-! PURE: about -/
/-- a place found, or none -/
def pl (x : Int32) (i : Nat) : Prop := x = -4 ∨ ∃ a, a < i ∧ x = nI a
theorem pl.mono {x : Int32} {i j : Nat} (h : i ≤ j) (k : pl x i) : pl x j := by
  rcases k with k | ⟨a, h1, h2⟩
  · exact Or.inl k
  · exact Or.inr ⟨a, by omega, h2⟩
theorem about_loop {S : mM} {r n : Nat} (hr : r < 4) (hn : n ≤ 201) (h2 : S.1 (54 + 3 * r) 2 = nI n) (h3 : S.1 91 r = nI n)
    (h4 : ∀ i, i < n → S.2.1 (55 + 3 * r) i = S.2.1 92 (201 * r + i) ∧ S.1 (56 + 3 * r) i = S.1 93 (201 * r + i) ∧ (S.1 93 (201 * r + i) = 0 ∨ (S.1 93 (201 * r + i) = 1 ∧ S.2.1 92 (201 * r + i) = 0))) :
    ∀ (m i f f' : Nat) (many least great gap : Int32), i + m = n → m < f → m < f' → pl least i → pl great i → pl gap i →
      ∃ R1 R2 R3 R4, f_X3_countGaps_4 f' (54 + 3 * r) many (nI i) S = some (R1, S) ∧ f_X3_placeOfLeast_5 f' (54 + 3 * r) least (nI i) S = some (R2, S) ∧ f_X3_placeOfGreatest_5 f' (54 + 3 * r) great (nI i) S = some (R3, S) ∧
        (gap = -4 → f_X3_firstGap_2 f' (54 + 3 * r) (nI i) S = some (R4, S)) ∧ (¬ gap = -4 → R4 = gap) ∧
        ∀ w, f_X12_about_39 f (nI r) w many least great gap (nI i) S = some (if w = 0 then nI n else if w = 1 then R1 else if w = 2 then R2 else if w = 3 then R3 else R4, S)
  | 0, i, f + 1, f' + 1, many, least, great, gap, hm, _, _, _, _, _ => by
    have hle : nI n ≤ nI i := nI_le (by omega) (by omega)
    refine ⟨many, least, great, gap, ?_, ?_, ?_, fun hg => ?_, fun _ => rfl, fun w => ?_⟩
    · unfold f_X3_countGaps_4; rw [h2, if_pos hle]
    · unfold f_X3_placeOfLeast_5; rw [h2, if_pos hle]
    · unfold f_X3_placeOfGreatest_5; rw [h2, if_pos hle]
    · unfold f_X3_firstGap_2; rw [h2, if_pos hle, hg]
    · unfold f_X12_about_39
      rw [if_pos (ix (show r < 4 by omega) (by omega)), nI_clamp (by omega), h3, if_pos hle, if_pos (ixc (show r < 4 by omega) (by omega))]
      by_cases w0 : w = 0
      · subst w0; rfl
      by_cases w1 : w = 1
      · subst w1; rfl
      by_cases w2 : w = 2
      · subst w2; rfl
      by_cases w3 : w = 3
      · subst w3; rfl
      simp only [w0, w1, w2, w3, if_false]
  | m + 1, i, f + 1, f' + 1, many, least, great, gap, hm, hf, hf', hl, hg, hp => by
    have hge : ¬ nI n ≤ nI i := nI_ge (by omega) (by omega)
    obtain ⟨a1, a2, a3⟩ := h4 i (by omega)
    have e1 : 54 + 3 * r + 1 = 55 + 3 * r := by omega
    have e2 : 54 + 3 * r + 2 = 56 + 3 * r := by omega
    have i201 : 0 ≤ nI i ∧ (nI i).toNatClampNeg < 201 := ix (by omega) (by omega)
    have i201c : 0 ≤ nI i ∧ i < 201 := ixc (by omega) (by omega)
    have i804 : 0 ≤ nI (201 * r + i) ∧ (nI (201 * r + i)).toNatClampNeg < 804 := ix (by omega) (by omega)
    have i804c : 0 ≤ nI (201 * r + i) ∧ 201 * r + i < 804 := ixc (by omega) (by omega)
    have ci : (nI i).toNatClampNeg = i := nI_clamp (by omega)
    have cx : (nI (201 * r + i)).toNatClampNeg = 201 * r + i := nI_clamp (by omega)
    have r4 : 0 ≤ nI r ∧ (nI r).toNatClampNeg < 4 := ix (by omega) (by omega)
    have cr : (nI r).toNatClampNeg = r := nI_clamp (by omega)
    have ii : pl (nI i) (i + 1) := Or.inr ⟨i, by omega, rfl⟩
    rcases a3 with a3 | ⟨a3, -⟩
    · -- no gap: the two places
      have g0 : S.1 (56 + 3 * r) i = 0 := a2.trans a3
      have hL : ∃ l', pl l' (i + 1) ∧ f_X3_placeOfLeast_5 (f' + 1) (54 + 3 * r) least (nI i) S = f_X3_placeOfLeast_5 f' (54 + 3 * r) l' (nI (i + 1)) S ∧
          ∀ w, f_X12_about_39 (f + 1) (nI r) w many least great gap (nI i) S = f_X12_about_130 (f_X12_about_39 f) (nI r) w many great gap (nI i) (nI (201 * r + i)) l' S := by
        rcases hl with hl | ⟨a, ha, hl⟩
        · refine ⟨nI i, ii, ?_, fun w => ?_⟩
          · rw [f_X3_placeOfLeast_5, h2, if_neg hge, if_pos i201, ci, e2, if_pos g0, hl, if_pos (by decide)]
            simp only [bnd, nI_1]
          · rw [f_X12_about_39, if_pos r4, cr, h3, if_neg hge, rowAt]
            simp only [bnd]
            rw [if_pos i804, cx, if_pos a3, hl, if_pos rfl]
            rfl
        · have b1 : S.2.1 (55 + 3 * r) a = S.2.1 92 (201 * r + a) := (h4 a (by omega)).1
          have q1 : ¬ nI a < 0 := nI_pos (by omega)
          have q2 : ¬ nI a = -4 := m1_ne (by omega)
          by_cases hc : 0 ≤ lg_cmp (S.2.1 92 (201 * r + i)) (S.2.1 92 (201 * r + a))
          · refine ⟨nI a, Or.inr ⟨a, by omega, rfl⟩, ?_, fun w => ?_⟩
            · rw [f_X3_placeOfLeast_5, h2, if_neg hge, if_pos i201, ci, e2, if_pos g0, hl, if_neg q1, if_pos i201c, if_pos (ix (show a < 201 by omega) (by omega)), nI_clamp (show a < 2 ^ 31 by omega), e1, a1, b1, if_pos hc]
              simp only [bnd, nI_1]
            · rw [f_X12_about_39, if_pos r4, cr, h3, if_neg hge, rowAt]
              simp only [bnd]
              rw [if_pos i804, cx, if_pos a3, hl, if_neg q2, if_pos i804c, rowAt, if_pos (ix (show 201 * r + a < 804 by omega) (by omega)), nI_clamp (show 201 * r + a < 2 ^ 31 by omega), if_pos hc]
          · refine ⟨nI i, ii, ?_, fun w => ?_⟩
            · rw [f_X3_placeOfLeast_5, h2, if_neg hge, if_pos i201, ci, e2, if_pos g0, hl, if_neg q1, if_pos i201c, if_pos (ix (show a < 201 by omega) (by omega)), nI_clamp (show a < 2 ^ 31 by omega), e1, a1, b1, if_neg hc]
              simp only [bnd, nI_1]
            · rw [f_X12_about_39, if_pos r4, cr, h3, if_neg hge, rowAt]
              simp only [bnd]
              rw [if_pos i804, cx, if_pos a3, hl, if_neg q2, if_pos i804c, rowAt, if_pos (ix (show 201 * r + a < 804 by omega) (by omega)), nI_clamp (show 201 * r + a < 2 ^ 31 by omega), if_neg hc]
              rfl
      obtain ⟨l', pl', hl1, hl2⟩ := hL
      have hG : ∃ g', pl g' (i + 1) ∧ f_X3_placeOfGreatest_5 (f' + 1) (54 + 3 * r) great (nI i) S = f_X3_placeOfGreatest_5 f' (54 + 3 * r) g' (nI (i + 1)) S ∧
          ∀ w, f_X12_about_130 (f_X12_about_39 f) (nI r) w many great gap (nI i) (nI (201 * r + i)) l' S = f_X12_about_39 f (nI r) w many l' g' gap (nI (i + 1)) S := by
        rcases hg with hg | ⟨a, ha, hg⟩
        · refine ⟨nI i, ii, ?_, fun w => ?_⟩
          · rw [f_X3_placeOfGreatest_5, h2, if_neg hge, if_pos i201, ci, e2, if_pos g0, hg, if_pos (by decide)]
            simp only [bnd, nI_1]
          · rw [f_X12_about_130, hg, if_pos rfl]
            simp only [bnd, nI_1]
        · have b1 : S.2.1 (55 + 3 * r) a = S.2.1 92 (201 * r + a) := (h4 a (by omega)).1
          have q1 : ¬ nI a < 0 := nI_pos (by omega)
          have q2 : ¬ nI a = -4 := m1_ne (by omega)
          by_cases hc : lg_cmp (S.2.1 92 (201 * r + i)) (S.2.1 92 (201 * r + a)) ≤ 0
          · refine ⟨nI a, Or.inr ⟨a, by omega, rfl⟩, ?_, fun w => ?_⟩
            · rw [f_X3_placeOfGreatest_5, h2, if_neg hge, if_pos i201, ci, e2, if_pos g0, hg, if_neg q1, if_pos i201c, if_pos (ix (show a < 201 by omega) (by omega)), nI_clamp (show a < 2 ^ 31 by omega), e1, a1, b1, if_pos hc]
              simp only [bnd, nI_1]
            · rw [f_X12_about_130, hg, if_neg q2, if_pos i804, cx, rowAt, if_pos (ix (show 201 * r + a < 804 by omega) (by omega)), nI_clamp (show 201 * r + a < 2 ^ 31 by omega), if_pos hc]
              simp only [bnd, nI_1]
          · refine ⟨nI i, ii, ?_, fun w => ?_⟩
            · rw [f_X3_placeOfGreatest_5, h2, if_neg hge, if_pos i201, ci, e2, if_pos g0, hg, if_neg q1, if_pos i201c, if_pos (ix (show a < 201 by omega) (by omega)), nI_clamp (show a < 2 ^ 31 by omega), e1, a1, b1, if_neg hc]
              simp only [bnd, nI_1]
            · rw [f_X12_about_130, hg, if_neg q2, if_pos i804, cx, rowAt, if_pos (ix (show 201 * r + a < 804 by omega) (by omega)), nI_clamp (show 201 * r + a < 2 ^ 31 by omega), if_neg hc]
              simp only [bnd, nI_1]
      obtain ⟨g', pg', hg1, hg2⟩ := hG
      obtain ⟨R1, R2, R3, R4, k1, k2, k3, k4, k5, k6⟩ := about_loop hr hn h2 h3 h4 m (i + 1) f f' many l' g' gap (by omega) (by omega) (by omega) pl' pg' (hp.mono (by omega))
      refine ⟨R1, R2, R3, R4, ?_, hl1.trans k2, hg1.trans k3, fun q => ?_, k5, fun w => ((hl2 w).trans (hg2 w)).trans (k6 w)⟩
      · rw [f_X3_countGaps_4, h2, if_neg hge, if_pos i201, ci, e2, if_pos g0]
        simp only [bnd, nI_1]
        exact k1
      · rw [f_X3_firstGap_2, h2, if_neg hge, if_pos i201, ci, e2, if_pos g0]
        simp only [bnd, nI_1]
        exact k4 q
    · have g1 : ¬ S.1 (56 + 3 * r) i = 0 := by rw [a2, a3]; decide
      have g93 : ¬ S.1 93 (201 * r + i) = 0 := by rw [a3]; decide
      have hq : ∃ p', pl p' (i + 1) ∧ ¬ p' = -4 ∧ (gap = -4 → p' = nI i) ∧ (¬ gap = -4 → p' = gap) ∧ ∀ w, f_X12_about_39 (f + 1) (nI r) w many least great gap (nI i) S = f_X12_about_39 f (nI r) w (many + 1) least great p' (nI (i + 1)) S := by
        by_cases hz : gap = -4
        · refine ⟨nI i, ii, m1_ne (by omega), fun _ => rfl, fun q => absurd hz q, fun w => ?_⟩
          rw [f_X12_about_39, if_pos r4, cr, h3, if_neg hge, rowAt]
          simp only [bnd]
          rw [if_pos i804, cx, if_neg g93, if_pos hz, nI_1]
        · refine ⟨gap, hp.mono (by omega), hz, fun q => absurd q hz, fun _ => rfl, fun w => ?_⟩
          rw [f_X12_about_39, if_pos r4, cr, h3, if_neg hge, rowAt]
          simp only [bnd]
          rw [if_pos i804, cx, if_neg g93, if_neg hz, nI_1]
      obtain ⟨p', pp, pn, pz, pk, hw⟩ := hq
      obtain ⟨R1, R2, R3, R4, k1, k2, k3, k4, k5, k6⟩ := about_loop hr hn h2 h3 h4 m (i + 1) f f' (many + 1) least great p' (by omega) (by omega) (by omega) (hl.mono (by omega)) (hg.mono (by omega)) pp
      refine ⟨R1, R2, R3, R4, ?_, ?_, ?_, fun q => ?_, fun q => (k5 pn).trans (pk q), fun w => (hw w).trans (k6 w)⟩
      · rw [f_X3_countGaps_4, h2, if_neg hge, if_pos i201, ci, e2, if_neg g1]
        simp only [bnd, nI_1]
        exact k1
      · rw [f_X3_placeOfLeast_5, h2, if_neg hge, if_pos i201, ci, e2, if_neg g1]
        simp only [bnd, nI_1]
        exact k2
      · rw [f_X3_placeOfGreatest_5, h2, if_neg hge, if_pos i201, ci, e2, if_neg g1]
        simp only [bnd, nI_1]
        exact k3
      · rw [f_X3_firstGap_2, h2, if_neg hge, if_pos i201, ci, e2, if_neg g1, k5 pn, pz q]
theorem l4 (p : Int32) : p.toInt64 ≤ (4 : Int64) ↔ p ≤ 4 := by rw [show (4 : Int64) = (4 : Int32).toInt64 by decide, l_le]
theorem in04 {p : Int32} : (0 ≤ p ∧ p ≤ 4) ↔ (p = 0 ∨ p = 1 ∨ p = 2 ∨ p = 3 ∨ p = 4) := by
  rw [small_iff, ← Int32.toInt_inj, ← Int32.toInt_inj, ← Int32.toInt_inj, ← Int32.toInt_inj, ← Int32.toInt_inj]
  have e1 : (1 : Int32).toInt = 1 := by decide
  have e2 : (2 : Int32).toInt = 2 := by decide
  have e3 : (3 : Int32).toInt = 3 := by decide
  have e4 : (4 : Int32).toInt = 4 := by decide
  have e0 : (0 : Int32).toInt = 0 := by decide
  omega
theorem ag_about (c : Nat) (p w : Int32) : Ag c (f_X11_about p w) (f_X12_about p w) := Ag.read (fun S h => by
  unfold f_X11_about f_X12_about
  rcases row_cases h.2.2.2.2.2.1 p with ⟨hp, e1, e2⟩ | ⟨r, n, hr, rfl, hp, hn, h2, h3, h4, e1, e2⟩
  · rw [e1, e2, mBind_of, mBind_of]
    exact ⟨_, rfl, rfl⟩
  · by_cases h0 : n = 0
    · simp only [h0, if_true] at e1 e2
      rw [e1, e2, mBind_of, mBind_of]
      exact ⟨_, rfl, rfl⟩
    · simp only [h0, if_false] at e1 e2 h3
      have e54 : 53 + 1 + 3 * r = 54 + 3 * r := by omega
      obtain ⟨R1, R2, R3, R4, k1, k2, k3, k4, -, k6⟩ := about_loop hr hn h2 h3 h4 n 0 mFuel mFuel 0 (-4) (-4) (-4) (by omega) (by unfold mFuel; omega) (by unfold mFuel; omega) (Or.inl rfl) (Or.inl rfl) (Or.inl rfl)
      have k1 : f_X3_countGaps (54 + 3 * r) S = some (R1, S) := k1
      have k2 : f_X3_placeOfLeast (54 + 3 * r) S = some (R2, S) := k2
      have k3 : f_X3_placeOfGreatest (54 + 3 * r) S = some (R3, S) := k3
      have k4 : f_X3_firstGap (54 + 3 * r) S = some (R4, S) := k4 rfl
      have k6 : ∀ w, f_X12_about_39 mFuel (nI r) w 0 (-4) (-4) (-4) 0 S = _ := k6
      rw [e1, e2, mBind_of, mBind_of, in_eq, mBind_of, k6]
      simp only [show ¬ (1 : Int32) = 0 by decide, if_false, b01, l0, l4, in04, bnd, if_pos (ix (show r < 4 by omega) (by omega)), if_pos (ixc (show r < 4 by omega) (by omega)), nI_clamp (show r < 2 ^ 31 by omega), e54, h2, k1, k2, k3, k4, mBind_of]
      by_cases w0 : w = 0
      · subst w0; exact ⟨_, rfl, rfl⟩
      by_cases w1 : w = 1
      · subst w1; exact ⟨_, rfl, rfl⟩
      by_cases w2 : w = 2
      · subst w2; exact ⟨_, rfl, rfl⟩
      by_cases w3 : w = 3
      · subst w3; exact ⟨_, rfl, rfl⟩
      by_cases w4 : w = 4
      · subst w4; exact ⟨_, rfl, rfl⟩
      simp only [w0, w1, w2, w3, w4, or_self, not_false_eq_true, if_true, if_false]
      exact ⟨_, rfl, rfl⟩)
