/-! PURE: mask -/
theorem setI_setI (S : mM) (a k : Nat) (v w : Int32) : setI (setI S a k v) a k w = setI S a k w := by
  unfold setI
  refine Prod.ext ?_ rfl
  funext b j
  by_cases h : b = a
  · subst h
    simp only [if_true, upd]
    by_cases e : j = k
    · simp only [if_pos e]
    · simp only [if_neg e]
  · simp only [if_neg h]
theorem mk_in {f : Int32} {i n : Nat} (hi : i < 1000) (hn : n ≤ 201) : ((0 : Int64) ≤ f.toInt64 + (nI i).toInt64 ∧ f.toInt64 + (nI i).toInt64 ≤ (nI n).toInt64 - (1 : Int64)) ↔ ∃ j, j < n ∧ f + nI i = nI j := by
  have F1 := f.le_toInt
  have F2 := f.toInt_lt
  have eL : (f.toInt64 + (nI i).toInt64).toInt = f.toInt + i := by
    rw [Int64.toInt_add, Int32.toInt_toInt64, Int32.toInt_toInt64, nI_toInt (by omega)]
    apply Int.bmod_eq_of_le <;> omega
  have eN : ((nI n).toInt64 - (1 : Int64)).toInt = n - 1 := by
    rw [Int64.toInt_sub, Int32.toInt_toInt64, nI_toInt (by omega), show (1 : Int64).toInt = 1 by decide]
    apply Int.bmod_eq_of_le <;> omega
  rw [← below (by omega), Int64.le_iff_toInt_le, Int64.le_iff_toInt_le, eL, eN, Int32.le_iff_toInt_le, Int32.le_iff_toInt_le, show (0 : Int64).toInt = 0 by decide, show (0 : Int32).toInt = 0 by decide]
  have eN' : (nI n - (1 : Int32)).toInt = n - 1 := by
    rw [Int32.toInt_sub, nI_toInt (by omega), show (1 : Int32).toInt = 1 by decide]
    apply Int.bmod_eq_of_le <;> omega
  rw [eN', Int32.toInt_add, nI_toInt (show i < 2 ^ 31 by omega)]
  by_cases h : f.toInt + i < 2 ^ 31
  · rw [Int.bmod_eq_of_le (by omega) (by omega)]
  · have e : (f.toInt + (i : Int)).bmod (2 ^ 32) = f.toInt + i - 2 ^ 32 := by
      rw [Int.bmod_def]
      split <;> omega
    rw [e]
    omega
theorem seg_has {S : mM} {t n : Nat} (hn : n ≤ 201) (h : S.1 t 2 = nI n) (p : Int32) : f_X5_has t p S = some (if ∃ k, k < n ∧ p = nI k then 1 else 0, S) := by
  unfold f_X5_has
  rw [isIn_eq, mBind_of, if_pos b01', h]
  simp only [below (p := p) (c := n) (by omega)]
theorem allows_eq {S : mM} {s len i : Nat} {v : Int32} (hlen : len ≤ 64) (h : S.1 (45 + 2 * s) 2 = nI len) (hi : 2 * i + 1 < len) : f_X6_allows (45 + 2 * s) (nI i) v S = some (if S.1 (46 + 2 * s) (2 * i) ≤ v ∧ v ≤ S.1 (46 + 2 * s) (2 * i + 1) then 1 else 0, S) := by
  have e0 : (2 : Int32) * nI i = nI (2 * i) := by rw [show (2 : Int32) = nI 2 from rfl, nI_mul]
  have e1 : ∃ k, k < len ∧ nI (2 * i) = nI k := ⟨_, by omega, rfl⟩
  have e2 : ∃ k, k < len ∧ nI (2 * i + 1) = nI k := ⟨_, hi, rfl⟩
  unfold f_X6_allows
  rw [e0]
  simp only [bnd]
  rw [sheet_has hlen h, mBind_of, if_pos e1, if_neg (by decide), nI_1, sheet_has hlen h, mBind_of, if_pos e2, if_neg (by decide), if_pos (ix (show 2 * i < 64 by omega) (by omega)), if_pos (ix (show 2 * i + 1 < 64 by omega) (by omega)), nI_clamp (by omega), nI_clamp (by omega), isIn_eq, mBind_of, show 45 + 2 * s + 1 = 46 + 2 * s by omega]
  by_cases q : S.1 (46 + 2 * s) (2 * i) ≤ v ∧ v ≤ S.1 (46 + 2 * s) (2 * i + 1)
  · rw [if_pos q, if_neg (by decide)]
  · rw [if_neg q, if_pos rfl]
theorem mask_loop {S S' : mM} {k s n len N : Nat} {t fr : Int32} (hk : k < 8) (hs : s < 4) (hn : n ≤ 201) (hlen : len ≤ 64) (hN : 2 * N ≤ len) (a2 : S.1 (12 + 2 * k) 2 = nI n) (b2 : S.1 (45 + 2 * s) 2 = nI len) (h85 : S'.1 85 k = nI n)
    (hv : ∀ i, i < n → S.1 (13 + 2 * k) i = S'.1 87 (201 * k + i)) (hc : ∀ i, i < len → S.1 (46 + 2 * s) i = S'.1 90 (64 * s + i)) :
    ∀ (m i f f' q : Nat) (w : Int32), i + m = N → q ≤ i → m < f → m < f' → ∃ R z, f_X11_mask_90 f t fr (nI N) (45 + 2 * s) (12 + 2 * k) (nI q) (nI i) (setI S 0 6 w) = some (R, setI S 0 6 z) ∧ f_X12_mask_113 f' (nI k) t (nI s) fr (nI N) (nI q) w (nI i) S' = some (R, setI S' 69 42 z) := by
  intro m
  have k8 : 0 ≤ nI k ∧ (nI k).toNatClampNeg < 8 := ix (by omega) (by omega)
  have ck : (nI k).toNatClampNeg = k := nI_clamp (by omega)
  induction m with
  | zero =>
    intro i f f' q w hm hq hf hf'
    obtain ⟨f, rfl⟩ : ∃ g, f = g + 1 := ⟨f - 1, by omega⟩
    obtain ⟨f', rfl⟩ : ∃ g, f' = g + 1 := ⟨f' - 1, by omega⟩
    refine ⟨nI q, w, ?_, ?_⟩
    · unfold f_X11_mask_90
      rw [if_pos (nI_le (by omega) (by omega))]
    · unfold f_X12_mask_113
      rw [if_pos (nI_le (by omega) (by omega))]
      rfl
  | succ m ih =>
    intro i f f' q w hm hq hf hf'
    obtain ⟨f, rfl⟩ : ∃ g, f = g + 1 := ⟨f - 1, by omega⟩
    obtain ⟨f', rfl⟩ : ∃ g, f' = g + 1 := ⟨f' - 1, by omega⟩
    have gN : ¬ nI N ≤ nI i := nI_ge (by omega) (by omega)
    have w2 : ∀ b j, b ≠ 0 → (setI S 0 6 w).1 b j = S.1 b j := fun b j hb => by rw [setI_row _ _ _ _ hb]
    have a2' : (setI S 0 6 w).1 (12 + 2 * k) 2 = nI n := by rw [w2 _ _ (by omega)]; exact a2
    have b2' : (setI S 0 6 w).1 (45 + 2 * s) 2 = nI len := by rw [w2 _ _ (by omega)]; exact b2
    unfold f_X11_mask_90 f_X12_mask_113
    rw [if_neg gN, if_neg gN]
    simp only [bnd]
    rw [seg_has hn a2', mBind_of, if_pos k8, ck, h85, in_eq, mBind_of]
    simp only [mk_in (f := fr) (show i < 1000 by omega) hn]
    by_cases hj : ∃ j, j < n ∧ fr + nI i = nI j
    · rw [if_pos hj, if_neg (by decide), if_neg (by decide)]
      obtain ⟨j, j1, j2⟩ := hj
      have e64 : (64 : Int32) * nI s + (2 : Int32) * nI i = nI (64 * s + 2 * i) := by rw [show (2 : Int32) = nI 2 from rfl, nI_mul, sheetAt]
      rw [Int64.toInt32_add, Int32.toInt32_toInt64, Int32.toInt32_toInt64, j2, seg_at hk hn a2' j1, mBind_of, val_at hk (by omega), mBind_of, w2 _ _ (by omega), hv j j1, allows_eq hlen b2' (by omega), mBind_of, w2 _ _ (by omega), w2 _ _ (by omega), hc _ (by omega), hc _ (by omega), e64]
      simp only [nI_1]
      rw [if_pos (ix (show 64 * s + 2 * i < 256 by omega) (by omega)), if_pos (ix (show 64 * s + 2 * i + 1 < 256 by omega) (by omega)), nI_clamp (by omega), nI_clamp (by omega), show 64 * s + (2 * i + 1) = 64 * s + 2 * i + 1 by omega]
      generalize nb t (S'.1 87 (201 * k + j)) = v
      -- beyond, in both
      have hbad : ∃ R z, (if nI q = 0 then f_X11_mask_90 f t fr (nI N) (45 + 2 * s) (12 + 2 * k) (nI (q + 1)) (nI (i + 1)) (setI (setI S 0 6 w) 0 6 (nI j)) else f_X11_mask_90 f t fr (nI N) (45 + 2 * s) (12 + 2 * k) (nI (q + 1)) (nI (i + 1)) (setI S 0 6 w)) = some (R, setI S 0 6 z) ∧
          f_X12_mask_198 (f_X12_mask_113 f') (nI k) t (nI s) fr (nI N) (nI q) w (nI i) (fr.toInt64 + (nI i).toInt64) S' = some (R, setI S' 69 42 z) := by
        unfold f_X12_mask_198
        simp only [bnd, nI_1, Int64.toInt32_add, Int32.toInt32_toInt64, j2]
        by_cases hq0 : nI q = 0
        · rw [if_pos hq0, if_pos hq0, setI_setI]
          exact ih (i + 1) f f' (q + 1) (nI j) (by omega) (by omega) (by omega) (by omega)
        · rw [if_neg hq0, if_neg hq0]
          exact ih (i + 1) f f' (q + 1) w (by omega) (by omega) (by omega) (by omega)
      by_cases q1 : v < S'.1 90 (64 * s + 2 * i)
      · rw [if_neg (show ¬ (S'.1 90 (64 * s + 2 * i) ≤ v ∧ v ≤ S'.1 90 (64 * s + 2 * i + 1)) from fun z => Int32.not_le.mpr q1 z.1), if_pos rfl, if_pos q1]
        exact hbad
      · rw [if_neg q1]
        by_cases q2 : v ≤ S'.1 90 (64 * s + 2 * i + 1)
        · rw [if_pos (show S'.1 90 (64 * s + 2 * i) ≤ v ∧ v ≤ S'.1 90 (64 * s + 2 * i + 1) from ⟨Int32.not_lt.mp q1, q2⟩), if_neg (show ¬ (1 : Int32) = 0 by decide), if_pos q2]
          exact ih (i + 1) f f' q w (by omega) (by omega) (by omega) (by omega)
        · rw [if_neg (show ¬ (S'.1 90 (64 * s + 2 * i) ≤ v ∧ v ≤ S'.1 90 (64 * s + 2 * i + 1)) from fun z => q2 z.2), if_pos rfl, if_neg q2]
          exact hbad
    · rw [if_neg hj, if_pos rfl, if_pos rfl, nI_1]
      exact ih (i + 1) f f' q w (by omega) (by omega) (by omega) (by omega)
theorem half_le {N len : Nat} (hN : N < 2 ^ 31) (hl : len ≤ 64) : (lg_cmp ((2 : Int64) * (nI N).toInt64) ((nI len).toInt64) ≤ 0) ↔ 2 * N ≤ len := by
  rw [lg_cmp_le, Int64.le_iff_toInt_le, Int64.toInt_mul, Int32.toInt_toInt64, Int32.toInt_toInt64, nI_toInt hN, nI_toInt (by omega), show (2 : Int64).toInt = 2 by decide, Int.bmod_eq_of_le (by omega) (by omega)]
  omega
theorem ag_mask (c : Nat) (p t s g fr n : Int32) : Ag c (f_X11_mask p t s g fr n) (f_X12_mask p t s g fr n) := fun _ S h => by
  obtain ⟨ns, hns, s1, s2, s3, s4⟩ := h.2.2.2.1
  unfold f_X11_mask f_X12_mask
  rw [hasTrace_eq hns s1, mBind_of]
  simp only [isIn_eq, in_eq, mBind_of, b01, l0, l2, l3]
  by_cases hq : ∃ k, k < ns ∧ p = nI k
  case neg =>
    refine ⟨-1, S, S, ?_, ?_, h.mono (by omega)⟩
    · rw [if_pos (fun z => hq z.1)]
    · rw [isSeg hns s2, mBind_of, if_pos (b01.mpr hq)]
  by_cases ht : 0 ≤ t ∧ t ≤ 3
  case neg =>
    refine ⟨-1, S, S, ?_, ?_, h.mono (by omega)⟩
    · rw [if_pos (fun z => ht z.2)]
    · rw [isSeg hns s2, mBind_of, if_neg (fun z => b01.mp z hq), if_pos ht]
  by_cases hs : 0 ≤ s ∧ s ≤ 3
  case neg =>
    refine ⟨-1, S, S, ?_, ?_, h.mono (by omega)⟩
    · rw [if_nn ⟨hq, ht⟩, if_pos hs]
    · rw [isSeg hns s2, mBind_of, if_neg (fun z => b01.mp z hq), if_nn ht, if_pos hs]
  by_cases hg : 0 ≤ g ∧ g ≤ 2
  case neg =>
    refine ⟨-1, S, S, ?_, ?_, h.mono (by omega)⟩
    · rw [if_nn ⟨hq, ht⟩, if_nn hs, if_pos hg]
    · rw [isSeg hns s2, mBind_of, if_neg (fun z => b01.mp z hq), if_nn ht, if_nn hs, if_pos hg]
  by_cases hn : 0 ≤ n
  case neg =>
    refine ⟨-1, S, S, ?_, ?_, h.mono (by omega)⟩
    · rw [if_nn ⟨hq, ht⟩, if_nn hs, if_nn hg, if_neg hn]
    · rw [isSeg hns s2, mBind_of, if_neg (fun z => b01.mp z hq), if_nn ht, if_nn hs, if_nn hg, if_neg hn]
  have hq' := hq
  obtain ⟨k, hk, rfl⟩ := hq
  obtain ⟨-, a2, -, L, n1, n2, n3, n4⟩ := s4 k hk
  obtain ⟨i, hi, rfl⟩ := (upto (n := 3) (by omega)).mp hs
  obtain ⟨len, u1, u2, u3, u4, u5⟩ := h.2.2.2.2.1 i (by omega)
  obtain ⟨N, hN, rfl⟩ := nI_of (Int32.not_lt.mpr hn)
  have e45 : 44 + 1 + 2 * i = 45 + 2 * i := by omega
  have i4 : 0 ≤ nI i ∧ (nI i).toNatClampNeg < 4 := ix (by omega) (by omega)
  have ci : (nI i).toNatClampNeg = i := nI_clamp (by omega)
  have pre : ∀ (T : mM) (R : Option (Int32 × mM)), T.1 69 34 = nI ns → (if T.1 88 i = g then if (lg_cmp ((2 : Int64) * (nI N).toInt64) ((T.1 89 i).toInt64)) ≤ 0 then f_X12_mask_113 mFuel (nI k) t (nI i) fr (nI N) (0 : Int32) (-4 : Int32) (0 : Int32) T else some ((-12 : Int32), T) else if T.1 88 i = -4 then some ((-11 : Int32), T) else some ((-13 : Int32), T)) = R → f_X12_mask (nI k) t (nI i) g fr (nI N) T = R := fun T R e1 e2 => by
    unfold f_X12_mask
    rw [isSeg hns e1, mBind_of, if_neg (fun z => b01.mp z hq')]
    simp only [isIn_eq, in_eq, mBind_of, b01, l0, l2, l3]
    rw [if_nn ht, if_nn hs, if_nn hg, if_pos hn, if_pos i4, if_pos i4, if_pos i4, ci]
    exact e2
  suffices hh : ∃ r S1 S2, (mBind (f_X6_faultAs (45 + 2 * i) g (nI N) S) fun r9 S10 =>
          if r9 = 0 then
            mBind (f_X8_get (nI k) S10) fun r11 S12 =>
            if mKind r11 = 5 then
            f_X11_mask_90 mFuel t fr (nI N) (45 + 2 * i) r11 (0 : Int32) (0 : Int32) (setI S12 0 6 (-4 : Int32))
            else none
          else
            some (((-10 : Int32) - r9), S10)) = some (r, S1) ∧ f_X12_mask (nI k) t (nI i) g fr (nI N) S1 = some (r, S2) ∧ Inv (c + 1) S2 by
    obtain ⟨r, S1, S2, v1, v2, v3⟩ := hh
    refine ⟨r, S1, S2, ?_, ?_, v3⟩
    · rw [if_nn ⟨hq', ht⟩, if_nn hs, if_nn hg, if_pos hn, if_pos i4, ci]
      simp only [bnd, e45]
      exact v1
    · have v2' := v2
      unfold f_X12_mask at v2'
      simp only [isIn_eq, in_eq, mBind_of, b01, l0, l2, l3] at v2'
      exact v2'
  unfold f_X6_faultAs f_X6_isNothing
  rcases u4 with ⟨x1, x2, x3⟩ | ⟨g', g1, g2, g3⟩
  · have gne : ¬ (-4 : Int32) = g := fun z => by
      rw [← z] at hg
      exact absurd hg.1 (by decide)
    refine ⟨-11, S, S, ?_, pre S _ s2 ?_, h.mono (by omega)⟩
    · rw [x1, if_pos rfl, mBind_of, if_neg (by decide), mBind_of, if_neg (by decide)]
      rfl
    · rw [x2, if_neg gne, if_pos rfl]
  · have gn : ¬ nI g' = -1 := by
      intro q
      have a := nI_toInt (show g' < 2 ^ 31 by omega)
      rw [q] at a
      have : (-1 : Int32).toInt = -1 := by decide
      omega
    have gm : ¬ nI g' = -4 := m1_ne (by omega)
    by_cases hgg : nI g' = g
    · by_cases hNl : 2 * N ≤ len
      · have hle : nI N ≤ nI len / (2 : Int32) := by
          rw [show nI len / (2 : Int32) = nI (len / 2) from nI_div (b := 2) (by omega) (by omega)]
          exact nI_le (by omega) (by omega)
        have key : ∀ S', S'.1 85 k = nI L → (∀ i, i < L → S.1 (13 + 2 * k) i = S'.1 87 (201 * k + i)) → (∀ j, j < len → S.1 (46 + 2 * i) j = S'.1 90 (64 * i + j)) →
            ∃ R z, f_X11_mask_90 mFuel t fr (nI N) (45 + 2 * i) (12 + 2 * k) (nI 0) (nI 0) (setI S 0 6 (-4)) = some (R, setI S 0 6 z) ∧ f_X12_mask_113 mFuel (nI k) t (nI i) fr (nI N) (nI 0) (-4) (nI 0) S' = some (R, setI S' 69 42 z) := fun S' v1 v2 v3 =>
          mask_loop (by omega) (by omega) n2 u1 hNl (a2.trans n3) u2 v1 v2 v3 N 0 mFuel mFuel 0 (-4) (by omega) (by omega) (by unfold mFuel; omega) (by unfold mFuel; omega)
        obtain ⟨R, z, k1, -⟩ := key S n3 n4 u5
        obtain ⟨R', z', k2, k3⟩ := key (setI S 0 6 z) (by rw [setI_row _ _ _ _ (by omega)]; exact n3) (fun i hi => by rw [setI_row _ _ _ _ (by omega)]; exact n4 i hi) (fun i hi => by rw [setI_row _ _ _ _ (by omega)]; exact u5 i hi)
        have ee : (R', setI S 0 6 z') = (R, setI S 0 6 z) := Option.some.inj (k2.symm.trans k1)
        have eR : R' = R := congrArg Prod.fst ee
        have ez : z' = z := by
          have a := congrArg (fun x : Int32 × mM => x.2.1 0 6) ee
          simp only [setI_same] at a
          exact a
        subst eR ez
        refine ⟨R', setI S 0 6 z', setI (setI S 0 6 z') 69 42 z', ?_, pre _ _ (by rw [setI_row _ _ _ _ (by omega)]; exact s2) ?_, ?_⟩
        · rw [g2, if_neg gn, mBind_of, if_pos rfl, g2, if_pos hgg, u2, if_pos hle, mBind_of, if_pos rfl, store_get hns s1 hk, mBind_of, if_pos (kseg (by omega))]
          exact k1
        · rw [setI_row _ _ _ _ (by omega), setI_row _ _ _ _ (by omega), g3, if_pos hgg, u3, if_pos ((half_le hN u1).mpr hNl)]
          exact k3
        · exact ⟨(h.1.w rfl).w rfl, iFt_w rfl (iFt_w rfl h.2.1), ((h.2.2.1.mono (by omega)).w rfl).w rfl, (h.2.2.2.1.w rfl).w rfl, (h.2.2.2.2.1.w rfl).w rfl, (h.2.2.2.2.2.1.w rfl).w rfl, by rw [setI_same, setI_row _ _ _ _ (by omega), setI_same], (h.2.2.2.2.2.2.2.w rfl).w rfl⟩
      · have hle : ¬ nI N ≤ nI len / (2 : Int32) := by
          rw [show nI len / (2 : Int32) = nI (len / 2) from nI_div (b := 2) (by omega) (by omega)]
          exact nI_ge (by omega) hN
        refine ⟨-12, S, S, ?_, pre S _ s2 ?_, h.mono (by omega)⟩
        · rw [g2, if_neg gn, mBind_of, if_pos rfl, g2, if_pos hgg, u2, if_neg hle, mBind_of, if_neg (by decide)]
          rfl
        · rw [g3, if_pos hgg, u3, if_neg (fun z => hNl ((half_le hN u1).mp z))]
    · refine ⟨-13, S, S, ?_, pre S _ s2 ?_, h.mono (by omega)⟩
      · rw [g2, if_neg gn, mBind_of, if_pos rfl, g2, if_neg hgg, mBind_of, if_neg (by decide)]
        rfl
      · rw [g3, if_neg hgg, if_neg gm]
