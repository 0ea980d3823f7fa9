/-! PURE: sheet -/
theorem renew_loop {t n : Nat} (hn : n ≤ 64) : ∀ (m i f : Nat) (S : mM), S.1 t 2 = nI n → i + m = n → m < f → ∃ S', f_X6_renew_17 f t (nI i) S = some ((), S') ∧ (∀ b, b ≠ t + 1 → S'.1 b = S.1 b) ∧ (∀ j, S'.1 (t + 1) j = if i ≤ j ∧ j < n then 0 else S.1 (t + 1) j) ∧ S'.2 = S.2
  | 0, i, f + 1, S, h, hm, _ => by
    refine ⟨S, ?_, fun _ _ => rfl, fun j => ?_, rfl⟩
    · unfold f_X6_renew_17
      rw [h, if_pos (nI_le (by omega) (by omega))]
    · rw [if_neg (by omega)]
  | m + 1, i, f + 1, S, h, hm, hf => by
    obtain ⟨S', h1, h2, h3, h4⟩ := renew_loop hn m (i + 1) f (setI S (t + 1) i 0) (by rw [setI_row S (t + 1) i 0 (show t ≠ t + 1 by omega)]; exact h) (by omega) (by omega)
    refine ⟨S', ?_, fun b hb => ?_, fun j => ?_, h4⟩
    · unfold f_X6_renew_17
      rw [h, if_neg (nI_ge (by omega) (by omega)), if_pos (ix (show i < 64 by omega) (by omega)), nI_clamp (by omega)]
      simp only [bnd, nI_1]
      exact h1
    · rw [h2 b hb, setI_row _ _ _ _ hb]
    · rw [h3 j, setI_1]
      by_cases e : j = i
      · subst e
        rw [if_neg (by omega), if_pos ⟨rfl, rfl⟩, if_pos (by omega)]
      · rw [if_neg (show ¬ (t + 1 = t + 1 ∧ j = i) from fun q => e q.2)]
        by_cases q : i ≤ j ∧ j < n
        · rw [if_pos (by omega), if_pos q]
        · rw [if_neg (by omega), if_neg q]
theorem clear_loop {k : Nat} (hk : k < 4) : ∀ (m i f : Nat) (S : mM), i + m = 64 → m < f → ∃ S', f_X12_sheet_56 f (nI k) (nI i) S = some (1, S') ∧ (∀ b, b ≠ 90 → S'.1 b = S.1 b) ∧ (∀ j, S'.1 90 j = if 64 * k + i ≤ j ∧ j < 64 * k + 64 then 0 else S.1 90 j) ∧ S'.2 = S.2
  | 0, i, f + 1, S, hm, _ => by
    refine ⟨S, ?_, fun _ _ => rfl, fun j => ?_, rfl⟩
    · unfold f_X12_sheet_56
      rw [if_pos (show (64 : Int32) ≤ nI i from nI_le (a := 64) (show 64 ≤ i by omega) (by omega))]
    · rw [if_neg (by omega)]
  | m + 1, i, f + 1, S, hm, hf => by
    obtain ⟨S', h1, h2, h3, h4⟩ := clear_loop hk m (i + 1) f (setI S 90 (64 * k + i) 0) (by omega) (by omega)
    refine ⟨S', ?_, fun b hb => ?_, fun j => ?_, h4⟩
    · unfold f_X12_sheet_56
      rw [if_neg (show ¬ (64 : Int32) ≤ nI i from nI_ge (b := 64) (show i < 64 by omega) (by omega)), sheetAt, if_pos (ix (show 64 * k + i < 256 by omega) (by omega)), nI_clamp (by omega)]
      simp only [bnd, nI_1]
      exact h1
    · rw [h2 b hb, setI_row _ _ _ _ hb]
    · rw [h3 j, setI_1]
      by_cases e : j = 64 * k + i
      · subst e
        rw [if_neg (by omega), if_pos ⟨rfl, rfl⟩, if_pos (by omega)]
      · rw [if_neg (show ¬ (90 = 90 ∧ j = 64 * k + i) from fun q => e q.2)]
        by_cases q : 64 * k + i ≤ j ∧ j < 64 * k + 64
        · rw [if_pos (by omega), if_pos q]
        · rw [if_neg (by omega), if_neg q]
theorem ag_sheet (c : Nat) (p g n : Int32) : Ag c (f_X11_sheet p g n) (f_X12_sheet p g n) := fun _ S h => by
  unfold f_X11_sheet f_X12_sheet
  simp only [isIn_eq, in_eq, mBind_of, b01, l0, l2, l3]
  by_cases hp : 0 ≤ p ∧ p ≤ 3
  · by_cases hg : 0 ≤ g ∧ g ≤ 2
    · simp only [if_nn hp, if_nn hg]
      by_cases hn : n ≤ 64
      · simp only [if_pos hn]
        by_cases h0 : 0 ≤ n
        · simp only [if_pos h0]
          obtain ⟨k, hk, rfl⟩ := (upto (n := 3) (by omega)).mp hp
          obtain ⟨g', hg', rfl⟩ := (upto (n := 2) (by omega)).mp hg
          obtain ⟨m, hm, rfl⟩ := (upto (n := 64) (by omega)).mp ⟨h0, hn⟩
          have e45 : 44 + 1 + 2 * k = 45 + 2 * k := by omega
          have e46 : 45 + 2 * k + 1 = 46 + 2 * k := by omega
          obtain ⟨S1, a1, a2, a3, a4⟩ := renew_loop (t := 45 + 2 * k) hm m 0 mFuel (setI (setI S (45 + 2 * k) 1 (nI g')) (45 + 2 * k) 2 (nI m)) (setI_same _ _ _ _) (by omega) (by unfold mFuel; omega)
          obtain ⟨S2, b1, b2, b3, b4⟩ := clear_loop (k := k) (by omega) 64 0 mFuel (setI (setI S1 88 k (nI g')) 89 k (nI m)) (by omega) (by unfold mFuel; omega)
          rw [e46] at a2 a3
          have k4 : 0 ≤ nI k ∧ (nI k).toNatClampNeg < 4 := ix (by omega) (by omega)
          have k4c : 0 ≤ nI k ∧ k < 4 := ixc (by omega) (by omega)
          have ck : (nI k).toNatClampNeg = k := nI_clamp (by omega)
          refine ⟨1, S1, S2, ?_, ?_, ?_⟩
          · rw [if_pos k4, ck]
            simp only [bnd, e45]
            unfold f_X6_renew f_J9_min_7cf53
            simp only [bnd]
            by_cases q : (64 : Int32) < nI m
            · exact absurd hn (Int32.not_le.mpr q)
            · rw [if_neg q, mBind_of]
              have a1 : f_X6_renew_17 mFuel (45 + 2 * k) 0 (setI (setI S (45 + 2 * k) 1 (nI g')) (45 + 2 * k) 2 (nI m)) = some ((), S1) := a1
              rw [a1, mBind_of]
          · rw [if_pos k4, ck]
            simp only [bnd, if_pos k4c]
            exact b1
          · have rA : ∀ b, b ≠ 45 + 2 * k → b ≠ 46 + 2 * k → b ≠ 88 → b ≠ 89 → b ≠ 90 → S2.1 b = S.1 b := fun b q1 q2 q3 q4 q5 => by
              rw [b2 b q5, setI_row _ _ _ _ q4, setI_row _ _ _ _ q3, a2 b q2, setI_row _ _ _ _ q1, setI_row _ _ _ _ q1]
            have r2 : S2.2 = S.2 := by rw [b4]; exact a4
            refine ⟨h.1.frame (fun a ha => rA a (by unfold rwTp at ha; omega) (by unfold rwTp at ha; omega) (by unfold rwTp at ha; omega) (by unfold rwTp at ha; omega) (by unfold rwTp at ha; omega)) (by rw [rA 69 (by omega) (by omega) (by omega) (by omega) (by omega)]), by rw [rA 6 (by omega) (by omega) (by omega) (by omega) (by omega), rA 69 (by omega) (by omega) (by omega) (by omega) (by omega)]; exact h.2.1, (h.2.2.1.mono (by omega)).frame (fun a ha => rA a (by unfold rwEn at ha; omega) (by unfold rwEn at ha; omega) (by unfold rwEn at ha; omega) (by unfold rwEn at ha; omega) (by unfold rwEn at ha; omega)) (fun j _ => by rw [rA 69 (by omega) (by omega) (by omega) (by omega) (by omega)]) (by rw [r2]), h.2.2.2.1.frame (fun a ha => rA a (by unfold rwSg at ha; omega) (by unfold rwSg at ha; omega) (by unfold rwSg at ha; omega) (by unfold rwSg at ha; omega) (by unfold rwSg at ha; omega)) (by rw [rA 69 (by omega) (by omega) (by omega) (by omega) (by omega)]) (by rw [rA 7 (by omega) (by omega) (by omega) (by omega) (by omega)]), ?_, h.2.2.2.2.2.1.frame (fun a ha => rA a (by unfold rwRw at ha; omega) (by unfold rwRw at ha; omega) (by unfold rwRw at ha; omega) (by unfold rwRw at ha; omega) (by unfold rwRw at ha; omega)) (fun a _ => by rw [r2]), by rw [rA 0 (by omega) (by omega) (by omega) (by omega) (by omega), rA 69 (by omega) (by omega) (by omega) (by omega) (by omega)]; exact h.2.2.2.2.2.2.1, h.2.2.2.2.2.2.2.frame (fun a ha => rA a (by unfold rwWr at ha; omega) (by unfold rwWr at ha; omega) (by unfold rwWr at ha; omega) (by unfold rwWr at ha; omega) (by unfold rwWr at ha; omega)) (by rw [rA 69 (by omega) (by omega) (by omega) (by omega) (by omega)]) (by rw [rA 69 (by omega) (by omega) (by omega) (by omega) (by omega)])⟩
            intro k' hk'
            by_cases hkk : k' = k
            · subst hkk
              have s1 : S2.1 (45 + 2 * k') 1 = nI g' := by rw [b2 _ (by omega), setI_row _ _ _ _ (by omega), setI_row _ _ _ _ (by omega), a2 _ (by omega), setI_slot _ _ _ _ (by omega), setI_same]
              have s2 : S2.1 (45 + 2 * k') 2 = nI m := by rw [b2 _ (by omega), setI_row _ _ _ _ (by omega), setI_row _ _ _ _ (by omega), a2 _ (by omega), setI_same]
              have s3 : S2.1 88 k' = nI g' := by rw [b2 _ (by omega), setI_row _ _ _ _ (by omega), setI_same]
              have s4 : S2.1 89 k' = nI m := by rw [b2 _ (by omega), setI_same]
              refine ⟨m, hm, s2, s4, Or.inr ⟨g', hg', s1, s3⟩, fun i hi => ?_⟩
              rw [b2 _ (by omega), setI_row _ _ _ _ (by omega), setI_row _ _ _ _ (by omega), a3, if_pos (by omega), b3, if_pos (by omega)]
            · obtain ⟨n', c1, c2, c3, c4, c5⟩ := h.2.2.2.2.1 k' hk'
              have s1 : S2.1 (45 + 2 * k') = S.1 (45 + 2 * k') := rA _ (by omega) (by omega) (by omega) (by omega) (by omega)
              have s3 : S2.1 88 k' = S.1 88 k' := by rw [b2 _ (by omega), setI_row _ _ _ _ (by omega), setI_slot _ _ _ _ hkk, a2 _ (by omega), setI_row _ _ _ _ (by omega), setI_row _ _ _ _ (by omega)]
              have s4 : S2.1 89 k' = S.1 89 k' := by rw [b2 _ (by omega), setI_slot _ _ _ _ hkk, setI_row _ _ _ _ (by omega), a2 _ (by omega), setI_row _ _ _ _ (by omega), setI_row _ _ _ _ (by omega)]
              refine ⟨n', c1, by rw [s1]; exact c2, by rw [s4]; exact c3, by rw [s1, s3]; exact c4, fun i hi => ?_⟩
              rw [rA _ (by omega) (by omega) (by omega) (by omega) (by omega), b3, if_neg (by omega), setI_row _ _ _ _ (by omega), setI_row _ _ _ _ (by omega), a2 _ (by omega), setI_row _ _ _ _ (by omega), setI_row _ _ _ _ (by omega)]
              exact c5 i hi
        · simp only [if_neg h0]
          exact ⟨_, S, S, rfl, rfl, h.mono (by omega)⟩
      · simp only [if_neg hn]
        exact ⟨_, S, S, rfl, rfl, h.mono (by omega)⟩
    · simp only [if_nn hp, if_pos hg]
      exact ⟨_, S, S, rfl, rfl, h.mono (by omega)⟩
  · simp only [if_pos hp]
    exact ⟨_, S, S, rfl, rfl, h.mono (by omega)⟩
