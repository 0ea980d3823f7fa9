/-! PURE: told, keep, end, drop, segment, at, sample -/
theorem small_iff {p : Int32} {a b : Int32} : (a ≤ p ∧ p ≤ b) ↔ (a.toInt ≤ p.toInt ∧ p.toInt ≤ b.toInt) := by
  rw [Int32.le_iff_toInt_le, Int32.le_iff_toInt_le]
theorem in13 {p : Int32} : (1 ≤ p ∧ p ≤ 3) ↔ (p = 1 ∨ p = 2 ∨ p = 3) := by
  rw [small_iff, ← Int32.toInt_inj, ← Int32.toInt_inj, ← Int32.toInt_inj]
  have e1 : (1 : Int32).toInt = 1 := by decide
  have e2 : (2 : Int32).toInt = 2 := by decide
  have e3 : (3 : Int32).toInt = 3 := by decide
  omega
theorem in02 {p : Int32} : (0 ≤ p ∧ p ≤ 2) ↔ (p = 0 ∨ p = 1 ∨ p = 2) := by
  rw [small_iff, ← Int32.toInt_inj, ← Int32.toInt_inj, ← Int32.toInt_inj]
  have e1 : (1 : Int32).toInt = 1 := by decide
  have e2 : (2 : Int32).toInt = 2 := by decide
  have e3 : (0 : Int32).toInt = 0 := by decide
  omega
theorem ag_told (c : Nat) (p : Int32) : Ag c (f_X11_told p) (f_X12_told p) := Ag.read (fun S h => by
  obtain ⟨p0, N, cnt, h1, h2, h3, h4, h5, h6, h7, h8, h9, h10, ⟨b1, hb1, h11, h11'⟩, ⟨b2, hb2, h12, h12'⟩, ⟨b3, hb3, h13, h13'⟩, h14, h15, h16, h17, h18, h19, h20, h21, h22⟩ := h.2.2.1
  obtain ⟨cs, g1, g2, g3, -⟩ := h.2.2.2.1
  have hk : mKind p0 = 0 := by rcases h1 with ⟨rfl, -⟩ | ⟨rfl, -⟩ <;> rfl
  unfold f_X11_told f_X12_told f_X11_told_23
  rw [isIn_eq, mBind_of]
  simp only [b01, in13, h2, hk, h4, h5, h8, h9, h11, h11', h12, h12', h13, h13', h15, h16, h17, h18, g2, g3, bnd, if_true]
  by_cases e0 : p = 0
  · subst e0
    exact ⟨_, rfl, rfl⟩
  by_cases e1 : p = 1
  · subst e1
    by_cases q : nI b3 = 1
    · simp only [q, if_true]
      exact ⟨_, rfl, rfl⟩
    · simp only [q, if_false]
      exact ⟨_, rfl, rfl⟩
  by_cases e2 : p = 2
  · subst e2
    by_cases q : nI b3 = 1
    · simp only [q, if_true]
      exact ⟨_, rfl, rfl⟩
    · simp only [q, if_false]
      exact ⟨_, rfl, rfl⟩
  by_cases e3 : p = 3
  · subst e3
    by_cases q : nI b3 = 1
    · simp only [q, if_true]
      exact ⟨_, rfl, rfl⟩
    · simp only [q, if_false]
      exact ⟨_, rfl, rfl⟩
  simp only [e0, e1, e2, e3, if_false, or_self, not_false_eq_true, if_true]
  by_cases e4 : p = 4
  · simp only [e4, if_true]; exact ⟨_, rfl, rfl⟩
  by_cases e5 : p = 5
  · simp only [e4, e5, if_true, if_false]; exact ⟨_, rfl, rfl⟩
  by_cases e6 : p = 6
  · simp only [e4, e5, e6, if_true, if_false]; exact ⟨_, rfl, rfl⟩
  by_cases e7 : p = 7
  · simp only [e4, e5, e6, e7, if_true, if_false]; exact ⟨_, rfl, rfl⟩
  by_cases e8 : p = 8
  · simp only [e4, e5, e6, e7, e8, if_true, if_false]; exact ⟨_, rfl, rfl⟩
  by_cases e9 : p = 9
  · simp only [e4, e5, e6, e7, e8, e9, if_true, if_false]; exact ⟨_, rfl, rfl⟩
  simp only [e4, e5, e6, e7, e8, e9, if_false]
  exact ⟨_, rfl, rfl⟩)
theorem ag_end (c : Nat) (p : Int32) : Ag c (f_X11_end p) (f_X12_end p) := fun _ S h => by
  obtain ⟨n, hn, h1, h2, h3⟩ := h.1
  unfold f_X11_end f_X9_cutTo f_X12_end
  simp only [bnd, isIn_eq, mBind_of, in_eq, b01, l0, l_le]
  by_cases hk : 0 ≤ p ∧ p ≤ nI n
  · obtain ⟨k, hk', rfl⟩ := (upto (by omega)).mp hk
    refine ⟨nI n, setI S 1 1 (nI k), setI (setI S 1 1 (nI k)) 69 1 (nI k), ?_, ?_, ?_⟩
    · simp only [h1, hk, not_true_eq_false, if_false, mBind_of]
      rfl
    · have e : (setI S 1 1 (nI k)).1 69 1 = nI n := by rw [setI_row _ _ _ _ (by omega)]; exact h2
      simp only [e, hk, and_self, not_true_eq_false, if_false]
    · refine ⟨⟨k, by omega, ?_, ?_, fun j hj => ?_⟩, iFt_w rfl (iFt_w rfl h.2.1), ((h.2.2.1.mono (by omega)).w rfl).w rfl, (h.2.2.2.1.w rfl).w rfl, (h.2.2.2.2.1.w rfl).w rfl, (h.2.2.2.2.2.1.w rfl).w rfl, iBy_w rfl (iBy_w rfl h.2.2.2.2.2.2.1), (h.2.2.2.2.2.2.2.w rfl).w rfl⟩
      · rw [setI_row _ _ _ _ (by omega), setI_same]
      · rw [setI_same]
      · rw [setI_row _ _ _ _ (by omega), setI_row _ _ _ _ (by omega), setI_row _ _ _ _ (by omega), setI_row _ _ _ _ (by omega)]
        exact h3 j (by omega)
  · refine ⟨-1, S, S, ?_, ?_, h.mono (by omega)⟩
    · simp only [h1, hk, not_false_eq_true, if_true, mBind_of]
    · simp only [h2, hk, not_false_eq_true, if_true]
theorem ag_drop (c : Nat) : Ag c f_X11_drop f_X12_drop := fun _ S h => by
  obtain ⟨n, hn, h1, h2, h3, h4⟩ := h.2.2.2.1
  unfold f_X11_drop f_X8_removeLatest f_X12_drop
  cases n with
  | zero =>
    have e : nI 0 = 0 := nI_0
    refine ⟨-4, S, S, ?_, ?_, h.mono (by omega)⟩
    · simp only [h1, e, if_true, mBind_of]
    · simp only [h2, e, if_true]
  | succ n =>
    have e : ¬ nI (n + 1) = 0 := nI_ne0 (by omega) (by omega)
    refine ⟨nI n, setI S 10 1 (nI n), setI (setI S 10 1 (nI n)) 69 34 (nI n), ?_, ?_, ?_⟩
    · simp only [h1, e, if_false, bnd, nI_pred, mBind_of, setI_same]
      rfl
    · have e2 : (setI S 10 1 (nI n)).1 69 34 = nI (n + 1) := by rw [setI_row _ _ _ _ (by omega)]; exact h2
      simp only [e2, e, if_false, bnd, nI_pred, setI_same]
    · refine ⟨(h.1.w rfl).w rfl, iFt_w rfl (iFt_w rfl h.2.1), ((h.2.2.1.mono (by omega)).w rfl).w rfl, ⟨n, by omega, ?_, setI_same _ _ _ _, ?_, fun k hk => ?_⟩, (h.2.2.2.2.1.w rfl).w rfl, (h.2.2.2.2.2.1.w rfl).w rfl, iBy_w rfl (iBy_w rfl h.2.2.2.2.2.2.1), (h.2.2.2.2.2.2.2.w rfl).w rfl⟩
      · rw [setI_row _ _ _ _ (by omega), setI_same]
      · rw [setI_row _ _ _ _ (by omega), setI_row _ _ _ _ (by omega)]
        intro q
        have := h3 q
        omega
      · have r : ∀ b, b ≠ 10 → b ≠ 69 → (setI (setI S 10 1 (nI n)) 69 34 (nI n)).1 b = S.1 b := fun b q1 q2 => by rw [setI_row _ _ _ _ q2, setI_row _ _ _ _ q1]
        rw [r (12 + 2 * k) (by omega) (by omega), r (13 + 2 * k) (by omega) (by omega), r 84 (by omega) (by omega), r 85 (by omega) (by omega), r 86 (by omega) (by omega), r 87 (by omega) (by omega)]
        exact h4 k (by omega)
/-- the store's segments -/
theorem store_has {S : mM} {n : Nat} (hn : n ≤ 8) (h : S.1 10 1 = nI n) (p : Int32) : f_X8_has p S = some (if ∃ k, k < n ∧ p = nI k then 1 else 0, S) := by
  unfold f_X8_has
  rw [isIn_eq, mBind_of, if_pos b01', h]
  simp only [below (p := p) (c := n) (by omega)]
theorem store_get {S : mM} {n k : Nat} (hn : n ≤ 8) (h : S.1 10 1 = nI n) (hk : k < n) : f_X8_get (nI k) S = some (12 + 2 * k, S) := by
  have e : ∃ k', k' < n ∧ nI k = nI k' := ⟨k, hk, rfl⟩
  unfold f_X8_get
  rw [store_has hn h, mBind_of]
  simp only [e, if_true, bnd, if_pos (ix (show k < 8 by omega) (by omega)), if_pos (ixc (show k < 8 by omega) (by omega)), nI_clamp (show k < 2 ^ 31 by omega)]
  rfl
theorem isSeg {S : mM} {n : Nat} (hn : n ≤ 8) (h : S.1 69 34 = nI n) (p : Int32) : f_X12_isSegment p S = some (if ∃ k, k < n ∧ p = nI k then 1 else 0, S) := by
  unfold f_X12_isSegment
  rw [in_eq, mBind_of, if_pos b01', h]
  simp only [l0, l_le, below (p := p) (c := n) (by omega)]
theorem kseg {k : Nat} (h : k < 8) : mKind (12 + 2 * k) = 5 := (by decide : ∀ k, k < 8 → mKind (12 + 2 * k) = 5) k h
theorem ag_segment (c : Nat) (p q : Int32) : Ag c (f_X11_segment p q) (f_X12_segment p q) := Ag.read (fun S h => by
  obtain ⟨n, hn, h1, h2, -, h4⟩ := h.2.2.2.1
  unfold f_X11_segment f_X12_segment
  rw [store_has hn h1, isSeg hn h2, mBind_of, mBind_of]
  by_cases hk : ∃ k, k < n ∧ p = nI k
  · obtain ⟨k, hk, rfl⟩ := hk
    have e : ∃ k', k' < n ∧ nI k = nI k' := ⟨k, hk, rfl⟩
    obtain ⟨a1, a2, a3, -⟩ := h4 k hk
    rw [store_get hn h1 hk, mBind_of, in_eq, mBind_of]
    simp only [e, if_true, kseg (show k < 8 by omega), a1, a2, a3, l0, l2, in02, b01, if_pos (ix (show k < 8 by omega) (by omega)), if_pos (ixc (show k < 8 by omega) (by omega)), nI_clamp (show k < 2 ^ 31 by omega)]
    by_cases e0 : q = 0
    · subst e0; exact ⟨_, rfl, rfl⟩
    by_cases e1 : q = 1
    · subst e1; exact ⟨_, rfl, rfl⟩
    by_cases e2 : q = 2
    · subst e2; exact ⟨_, rfl, rfl⟩
    simp only [e0, e1, e2, or_self, not_false_eq_true, if_true, if_false]
    exact ⟨_, rfl, rfl⟩
  · simp only [hk, if_false, if_true]
    exact ⟨_, rfl, rfl⟩)
