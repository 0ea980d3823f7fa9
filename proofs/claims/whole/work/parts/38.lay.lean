/-! PURE: lay -/
theorem if_nn {α : Type} {p : Prop} [Decidable p] (h : p) {a b : α} : (if ¬ p then a else b) = b := if_neg (not_not_intro h)
theorem sheetAt {k i : Nat} : (64 : Int32) * nI k + nI i = nI (64 * k + i) := by rw [show (64 : Int32) = nI 64 from rfl, nI_mul, nI_add]
/-- one cell laid in both -/
theorem lay_inv {c k j : Nat} {S : mM} {v : Int32} (h : Inv c S) (hk : k < 4) (hj : ∀ n, S.1 89 k = nI n → n ≤ 64 → j < n) (hj64 : j < 64) : Inv (c + 1) (setI (setI S (46 + 2 * k) j v) 90 (64 * k + j) v) := by
  have o1 : oTp (46 + 2 * k) j = true := by simp only [oTp, Bool.not_eq_true', Bool.or_eq_false_iff, beq_eq_false_iff_ne, Bool.and_eq_false_iff]; omega
  have o2 : oFt (46 + 2 * k) j = true := by simp only [oFt, Bool.not_eq_true', Bool.or_eq_false_iff, beq_eq_false_iff_ne, Bool.and_eq_false_iff]; omega
  have o3 : oEn (46 + 2 * k) j = true := by simp only [oEn, Bool.not_eq_true', Bool.or_eq_false_iff, beq_eq_false_iff_ne, Bool.and_eq_false_iff, decide_eq_false_iff_not]; omega
  have o4 : oSg (46 + 2 * k) j = true := by simp only [oSg, Bool.not_eq_true', Bool.or_eq_false_iff, beq_eq_false_iff_ne, Bool.and_eq_false_iff, decide_eq_false_iff_not]; omega
  have o5 : oRw (46 + 2 * k) = true := by simp only [oRw, Bool.not_eq_true', Bool.or_eq_false_iff, Bool.and_eq_false_iff, decide_eq_false_iff_not]; omega
  have o6 : oBy (46 + 2 * k) j = true := by simp only [oBy, Bool.not_eq_true', Bool.or_eq_false_iff, beq_eq_false_iff_ne, Bool.and_eq_false_iff]; omega
  have o7 : oWr (46 + 2 * k) j = true := by simp only [oWr, Bool.not_eq_true', Bool.or_eq_false_iff, beq_eq_false_iff_ne, Bool.and_eq_false_iff, decide_eq_false_iff_not]; omega
  refine ⟨(h.1.w o1).w rfl, iFt_w rfl (iFt_w o2 h.2.1), ((h.2.2.1.mono (by omega)).w o3).w rfl, (h.2.2.2.1.w o4).w rfl, ?_, (h.2.2.2.2.2.1.w o5).w rfl, iBy_w rfl (iBy_w o6 h.2.2.2.2.2.2.1), (h.2.2.2.2.2.2.2.w o7).w rfl⟩
  intro k' hk'
  obtain ⟨n, h1, h2, h3, h4, h5⟩ := h.2.2.2.2.1 k' hk'
  have r1 : (setI (setI S (46 + 2 * k) j v) 90 (64 * k + j) v).1 (45 + 2 * k') = S.1 (45 + 2 * k') := by rw [setI_row _ _ _ _ (by omega), setI_row _ _ _ _ (by omega)]
  have r2 : (setI (setI S (46 + 2 * k) j v) 90 (64 * k + j) v).1 88 = S.1 88 := by rw [setI_row _ _ _ _ (by omega), setI_row _ _ _ _ (by omega)]
  have r3 : (setI (setI S (46 + 2 * k) j v) 90 (64 * k + j) v).1 89 = S.1 89 := by rw [setI_row _ _ _ _ (by omega), setI_row _ _ _ _ (by omega)]
  refine ⟨n, h1, by rw [r1]; exact h2, by rw [r3]; exact h3, by rw [r1, r2]; exact h4, fun i hi => ?_⟩
  by_cases hkk : k' = k
  · subst hkk
    by_cases hij : i = j
    · subst hij
      rw [setI_same, setI_row _ _ _ _ (by omega), setI_same]
    · rw [setI_row _ _ _ _ (by omega), setI_slot _ _ _ _ hij, setI_slot _ _ _ _ (by omega), setI_row _ _ _ _ (by omega)]
      exact h5 i hi
  · rw [setI_row _ _ _ _ (by omega), setI_row _ _ _ _ (by omega), setI_slot _ _ _ _ (by omega), setI_row _ _ _ _ (by omega)]
    exact h5 i hi
theorem sheet_has {S : mM} {t n : Nat} (hn : n ≤ 64) (h : S.1 t 2 = nI n) (p : Int32) : f_X6_has t p S = some (if ∃ k, k < n ∧ p = nI k then 1 else 0, S) := by
  unfold f_X6_has
  rw [isIn_eq, mBind_of, if_pos b01', h]
  simp only [below (p := p) (c := n) (by omega)]
theorem ag_lay (c : Nat) (p i v : Int32) : Ag c (f_X11_lay p i v) (f_X12_lay p i v) := fun _ S h => by
  unfold f_X11_lay f_X12_lay
  by_cases hp : 0 ≤ p ∧ p ≤ 3
  · obtain ⟨k, hk, rfl⟩ := (upto (n := 3) (by omega)).mp hp
    obtain ⟨n, h1, h2, h3, h4, h5⟩ := h.2.2.2.2.1 k (by omega)
    have e45 : 44 + 1 + 2 * k = 45 + 2 * k := by omega
    have e46 : 45 + 2 * k + 1 = 46 + 2 * k := by omega
    have k4 : 0 ≤ nI k ∧ (nI k).toNatClampNeg < 4 := ix (by omega) (by omega)
    have ck : (nI k).toNatClampNeg = k := nI_clamp (by omega)
    have k4c : 0 ≤ nI k ∧ k < 4 := ixc (by omega) (by omega)
    rcases h4 with ⟨a1, a2, a3⟩ | ⟨g, g1, g2, g3⟩
    · refine ⟨-11, S, S, ?_, ?_, h.mono (by omega)⟩
      · rw [isIn_eq, mBind_of]
        simp only [b01]
        rw [if_nn hp, if_pos k4, ck]
        simp only [bnd, e45]
        unfold f_X6_isNothing
        rw [a1, if_pos rfl, mBind_of]
        rfl
      · rw [in_eq, mBind_of]
        simp only [b01, l0, l3]
        rw [if_nn hp, if_pos k4, ck, a2, if_pos rfl]
    · have gn : ¬ nI g = -1 := by
        intro q
        have a := nI_toInt (show g < 2 ^ 31 by omega)
        rw [q] at a
        have : (-1 : Int32).toInt = -1 := by decide
        omega
      have gm : ¬ nI g = -4 := m1_ne (by omega)
      by_cases hi : ∃ j, j < n ∧ i = nI j
      · obtain ⟨j, hj, rfl⟩ := hi
        have e : ∃ j', j' < n ∧ nI j = nI j' := ⟨j, hj, rfl⟩
        have j64 : 0 ≤ nI j ∧ (nI j).toNatClampNeg < 64 := ix (by omega) (by omega)
        have cj : (nI j).toNatClampNeg = j := nI_clamp (by omega)
        have j64c : 0 ≤ nI j ∧ j < 64 := ixc (by omega) (by omega)
        have x256c : 0 ≤ nI (64 * k + j) ∧ 64 * k + j < 256 := ixc (by omega) (by omega)
        have x256 : 0 ≤ nI (64 * k + j) ∧ (nI (64 * k + j)).toNatClampNeg < 256 := ix (by omega) (by omega)
        have cx : (nI (64 * k + j)).toNatClampNeg = 64 * k + j := nI_clamp (by omega)
        obtain ⟨u, hu1, hu2⟩ : ∃ u : Int32, f_X6_put (45 + 2 * k) (nI j) v S = some ((), setI S (46 + 2 * k) j u) ∧ u = (if nI g = 0 then v.toInt8.toInt32 else if nI g = 1 then v.toInt16.toInt32 else v) := by
          refine ⟨_, ?_, rfl⟩
          unfold f_X6_put
          rw [sheet_has h1 h2, mBind_of]
          simp only [e, if_true, show ¬ (1 : Int32) = 0 by decide, if_false, g2, if_pos j64, if_pos j64c, bnd, cj, e46]
          by_cases q0 : nI g = 0
          · simp only [if_pos q0]
          · by_cases q1 : nI g = 1
            · simp only [if_neg q0, if_pos q1]
            · simp only [if_neg q0, if_neg q1]
        refine ⟨1, setI S (46 + 2 * k) j u, setI (setI S (46 + 2 * k) j u) 90 (64 * k + j) u, ?_, ?_, lay_inv h (by omega) (fun n' hn' hle => ?_) (by omega)⟩
        · rw [isIn_eq, mBind_of]
          simp only [b01]
          rw [if_nn hp, if_pos k4, ck]
          simp only [bnd, e45]
          unfold f_X6_isNothing
          rw [g2, if_neg gn, mBind_of, if_pos rfl, sheet_has h1 h2, mBind_of]
          simp only [e, if_true, show ¬ (1 : Int32) = 0 by decide, if_false]
          rw [hu1, mBind_of]
        · have r88 : (setI S (46 + 2 * k) j u).1 88 k = nI g := by rw [setI_row _ _ _ _ (by omega)]; exact g3
          have r89 : (setI S (46 + 2 * k) j u).1 89 k = nI n := by rw [setI_row _ _ _ _ (by omega)]; exact h3
          rw [in_eq, mBind_of]
          simp only [b01, l0, l3]
          rw [if_nn hp, if_pos k4, ck, r88, if_neg gm, if_pos k4c, r89, in_eq, mBind_of]
          simp only [b01, l0, l_le, below (p := nI j) (c := n) (by omega), e, not_true_eq_false, if_false]
          rw [if_pos k4c, r88, sheetAt, if_pos x256, cx]
          by_cases q0 : nI g = 0
          · rw [if_pos q0] at hu2
            simp only [if_pos q0, bnd, hu2]
          · by_cases q1 : nI g = 1
            · rw [if_neg q0, if_pos q1] at hu2
              simp only [if_neg q0, if_pos q1, bnd, if_pos k4c, if_pos x256c, hu2]
            · rw [if_neg q0, if_neg q1] at hu2
              simp only [if_neg q0, if_neg q1, bnd, if_pos k4c, if_pos x256c, hu2]
        · have := (nI_eq (show n < 2 ^ 31 by omega) (show n' < 2 ^ 31 by omega)).mp (h3.symm.trans hn')
          omega
      · refine ⟨-12, S, S, ?_, ?_, h.mono (by omega)⟩
        · rw [isIn_eq, mBind_of]
          simp only [b01]
          rw [if_nn hp, if_pos k4, ck]
          simp only [bnd, e45]
          unfold f_X6_isNothing
          rw [g2, if_neg gn, mBind_of, if_pos rfl, sheet_has h1 h2, mBind_of]
          simp only [hi, if_false, if_true]
        · rw [in_eq, mBind_of]
          simp only [b01, l0, l3]
          rw [if_nn hp, if_pos k4, ck, g3, if_neg gm, if_pos k4c, h3, in_eq, mBind_of]
          simp only [b01, l0, l_le, below (p := i) (c := n) (by omega), hi, not_false_eq_true, if_true]
  · refine ⟨-1, S, S, ?_, ?_, h.mono (by omega)⟩
    · rw [isIn_eq, mBind_of]
      simp only [b01, hp, not_false_eq_true, if_true]
    · rw [in_eq, mBind_of]
      simp only [b01, l0, l3, hp, not_false_eq_true, if_true]
