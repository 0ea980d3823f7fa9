/-! PURE: rows: which are filled; place, total -/
theorem krow {r : Nat} (h : r < 4) : mKind (54 + 3 * r) = 3 := (by decide : ∀ r, r < 4 → mKind (54 + 3 * r) = 3) r h
theorem m1_ne {n : Nat} (h : n < 2 ^ 31) : ¬ nI n = -4 := by
  intro q
  have a := nI_toInt h
  rw [q] at a
  have : (-4 : Int32).toInt = -4 := by decide
  omega
theorem row_cases {S : mM} (h : iRw S) (p : Int32) : (¬ (0 ≤ p ∧ p ≤ 3) ∧ f_X11_isFilled p S = some (0, S) ∧ f_X12_isRow p S = some (0, S)) ∨
    ∃ r n, r < 4 ∧ p = nI r ∧ (0 ≤ p ∧ p ≤ 3) ∧ n ≤ 201 ∧ S.1 (54 + 3 * r) 2 = nI n ∧ S.1 91 r = (if n = 0 then -4 else nI n) ∧
      (∀ i, i < n → S.2.1 (55 + 3 * r) i = S.2.1 92 (201 * r + i) ∧ S.1 (56 + 3 * r) i = S.1 93 (201 * r + i) ∧ (S.1 93 (201 * r + i) = 0 ∨ (S.1 93 (201 * r + i) = 1 ∧ S.2.1 92 (201 * r + i) = 0))) ∧
      f_X11_isFilled p S = some (if n = 0 then 0 else 1, S) ∧ f_X12_isRow p S = some (if n = 0 then 0 else 1, S) := by
  unfold f_X11_isFilled f_X12_isRow
  rw [isIn_eq, in_eq, mBind_of, mBind_of]
  simp only [b01, l0, l3]
  by_cases hp : 0 ≤ p ∧ p ≤ 3
  · right
    obtain ⟨r, hr, rfl⟩ := (upto (n := 3) (by omega)).mp hp
    obtain ⟨n, h1, h2, h3, h4⟩ := h r (by omega)
    have e54 : 53 + 1 + 3 * r = 54 + 3 * r := by omega
    refine ⟨r, n, by omega, rfl, hp, h1, h2, h3, h4, ?_, ?_⟩
    · simp only [hp, show r < 4 by omega, and_self, not_true_eq_false, if_false, if_true, if_pos (ix (show r < 4 by omega) (by omega)), if_pos (ixc (show r < 4 by omega) (by omega)), nI_clamp (show r < 2 ^ 31 by omega), bnd, e54, h2]
      by_cases h0 : n = 0
      · subst h0
        simp [nI_0]
      · rw [if_neg (nI_nle (by omega) (by omega)), if_neg h0]
    · simp only [hp, show r < 4 by omega, and_self, not_true_eq_false, if_false, if_true, if_pos (ix (show r < 4 by omega) (by omega)), if_pos (ixc (show r < 4 by omega) (by omega)), nI_clamp (show r < 2 ^ 31 by omega), h3]
      by_cases h0 : n = 0
      · simp [h0]
      · simp only [h0, if_false, m1_ne (show n < 2 ^ 31 by omega)]
  · left
    simp only [hp, not_false_eq_true, if_true]
    exact ⟨trivial, trivial, trivial⟩
theorem rowAt {r i : Nat} : (201 : Int32) * nI r + nI i = nI (201 * r + i) := by rw [show (201 : Int32) = nI 201 from rfl, nI_mul, nI_add]
theorem ag_place (c : Nat) (p i : Int32) : AgJ c (f_X11_place p i) (f_X12_place p i) := AgJ.read (fun S h => by
  unfold f_X11_place f_X12_place f_X3_valueAt
  rw [isIn_eq, mBind_of]
  rcases row_cases h.2.2.2.2.2.1 p with ⟨hp, -, e2⟩ | ⟨r, n, hr, rfl, hp, hn, h2, h3, h4, -, e2⟩
  · rw [e2, mBind_of]
    simp only [b01, hp, not_false_eq_true, if_true]
    exact ⟨_, rfl, rfl⟩
  · rw [e2, mBind_of]
    have e54 : 53 + 1 + 3 * r = 54 + 3 * r := by omega
    have e55 : 54 + 3 * r + 1 = 55 + 3 * r := by omega
    simp only [b01, hp, show r < 4 by omega, and_self, not_true_eq_false, if_false, if_true, if_pos (ix (show r < 4 by omega) (by omega)), if_pos (ixc (show r < 4 by omega) (by omega)), nI_clamp (show r < 2 ^ 31 by omega), bnd, e54, e55, isIn_eq, mBind_of, h2, below (p := i) (c := n) (by omega)]
    by_cases h0 : n = 0
    · subst h0
      have : ¬ ∃ k, k < 0 ∧ i = nI k := fun ⟨k, hk, _⟩ => absurd hk (by omega)
      simp only [this, not_false_eq_true, if_true, mBind_of]
      exact ⟨_, rfl, rfl⟩
    · simp only [h0, if_false, h3, in_eq, mBind_of, b01, l0, l_le, below (p := i) (c := n) (by omega), show ¬ (1 : Int32) = 0 by decide]
      by_cases hi : ∃ k, k < n ∧ i = nI k
      · obtain ⟨k, hk, rfl⟩ := hi
        have e : ∃ k', k' < n ∧ nI k = nI k' := ⟨k, hk, rfl⟩
        obtain ⟨a1, a2, a3⟩ := h4 k hk
        simp only [e, not_true_eq_false, if_false, if_pos (ix (show k < 201 by omega) (by omega)), if_pos (ixc (show k < 201 by omega) (by omega)), nI_clamp (show k < 2 ^ 31 by omega), mBind_of, rowAt, if_pos (ix (show 201 * r + k < 804 by omega) (by omega)), if_pos (ixc (show 201 * r + k < 804 by omega) (by omega)), nI_clamp (show 201 * r + k < 2 ^ 31 by omega), a1]
        rcases a3 with a3 | ⟨a3, a4⟩
        · simp only [a3, if_true]
          exact ⟨_, rfl, rfl⟩
        · simp only [a3, a4, show ¬ (1 : Int32) = 0 by decide, if_false]
          exact ⟨_, rfl, rfl⟩
      · simp only [hi, not_false_eq_true, if_true, mBind_of]
        exact ⟨_, rfl, rfl⟩)
/-- a sum, place by place -/
def sm (v : Nat → Int64) : Int64 → Nat → Nat → Int64
  | acc, _, 0 => acc
  | acc, i, m + 1 => sm v (acc + v i) (i + 1) m
theorem sm_congr {v w : Nat → Int64} : ∀ (m : Nat) (acc : Int64) (i : Nat), (∀ k, i ≤ k → k < i + m → v k = w k) → sm v acc i m = sm w acc i m
  | 0, _, _, _ => rfl
  | m + 1, acc, i, h => by
    show sm v (acc + v i) (i + 1) m = sm w (acc + w i) (i + 1) m
    rw [h i (by omega) (by omega)]
    exact sm_congr m _ _ (fun k h1 h2 => h k (by omega) (by omega))
theorem sum_loop {S : mM} {t n b : Nat} (hn : n ≤ 201) (h : S.1 t 2 = nI n) (hb : b < n) : ∀ (m i f : Nat) (acc : Int64), i + m = b + 1 → m < f → f_X3_sum_9 f t (nI b) acc (nI i) S = some (sm (S.2.1 (t + 1)) acc i m, S)
  | 0, i, f + 1, acc, hm, _ => by
    unfold f_X3_sum_9
    rw [if_pos (nI_lt (by omega) (by omega))]
    rfl
  | m + 1, i, f + 1, acc, hm, hf => by
    unfold f_X3_sum_9
    rw [if_neg (nI_nlt (by omega) (by omega)), h, if_neg (nI_ge (by omega) (by omega)), if_pos (ix (show i < 201 by omega) (by omega)), nI_clamp (by omega)]
    simp only [bnd, nI_1]
    exact sum_loop hn h hb m (i + 1) f _ (by omega) (by omega)
theorem total_loop {S : mM} {r n : Nat} (hr : r < 4) (hn : n ≤ 201) (hn0 : n ≠ 0) (h3 : S.1 91 r = nI n) (hrow : f_X12_isRow (nI r) S = some (1, S))
    (h4 : ∀ i, i < n → (S.1 93 (201 * r + i) = 0 ∨ (S.1 93 (201 * r + i) = 1 ∧ S.2.1 92 (201 * r + i) = 0))) : ∀ (m i f : Nat) (acc : Int64), i + m = n → m < f → f_X12_total_5 f (nI r) acc (nI i) S = some (sm (fun k => S.2.1 92 (201 * r + k)) acc i m, S)
  | 0, i, f + 1, acc, hm, _ => by
    unfold f_X12_total_5
    rw [hrow, mBind_of, if_neg (by decide), if_pos (ix (show r < 4 by omega) (by omega)), nI_clamp (by omega), h3, if_pos (nI_le (by omega) (by omega))]
    rfl
  | m + 1, i, f + 1, acc, hm, hf => by
    unfold f_X12_total_5
    rw [hrow, mBind_of, if_neg (by decide), if_pos (ix (show r < 4 by omega) (by omega)), nI_clamp (by omega), h3, if_neg (nI_ge (by omega) (by omega)), rowAt, if_pos (ix (show 201 * r + i < 804 by omega) (by omega)), nI_clamp (by omega)]
    simp only [bnd, nI_1]
    rcases h4 i (by omega) with a | ⟨a, b⟩
    · rw [if_pos a, if_pos (ixc (show 201 * r + i < 804 by omega) (by omega))]
      exact total_loop hr hn hn0 h3 hrow h4 m (i + 1) f _ (by omega) (by omega)
    · rw [if_neg (by rw [a]; decide), total_loop hr hn hn0 h3 hrow h4 m (i + 1) f _ (by omega) (by omega)]
      show _ = some (sm (fun k => S.2.1 92 (201 * r + k)) (acc + S.2.1 92 (201 * r + i)) (i + 1) m, S)
      rw [b]
theorem ag_total (c : Nat) (p : Int32) : AgJ c (f_X11_total p) (f_X12_total p) := AgJ.read (fun S h => by
  unfold f_X11_total f_X12_total
  rcases row_cases h.2.2.2.2.2.1 p with ⟨hp, e1, e2⟩ | ⟨r, n, hr, rfl, hp, hn, h2, h3, h4, e1, e2⟩
  · rw [e1, mBind_of]
    refine ⟨0, rfl, ?_⟩
    show f_X12_total_5 (99999 + 1) p 0 0 S = _
    unfold f_X12_total_5
    rw [e2, mBind_of]
    rfl
  · by_cases h0 : n = 0
    · simp only [h0, if_true] at e1 e2
      rw [e1, mBind_of]
      refine ⟨0, rfl, ?_⟩
      show f_X12_total_5 (99999 + 1) (nI r) 0 0 S = _
      unfold f_X12_total_5
      rw [e2, mBind_of]
      rfl
    · simp only [h0, if_false] at e1 e2 h3
      have e54 : 53 + 1 + 3 * r = 54 + 3 * r := by omega
      have e55 : 54 + 3 * r + 1 = 55 + 3 * r := by omega
      obtain ⟨n', rfl⟩ : ∃ n', n = n' + 1 := ⟨n - 1, by omega⟩
      rw [e1, mBind_of, if_neg (by decide), if_pos (ix (show r < 4 by omega) (by omega)), nI_clamp (by omega)]
      simp only [bnd, e54, h2, nI_pred, if_pos (ixc (show r < 4 by omega) (by omega))]
      unfold f_X3_sum f_J9_max_7cf53
      rw [if_neg (by decide), mBind_of, show (0 : Int32) = nI 0 from rfl]
      rw [sum_loop hn h2 (show n' < n' + 1 by omega) (n' + 1) 0 mFuel 0 (by omega) (by unfold mFuel; omega), mBind_of]
      rw [total_loop hr hn h0 h3 e2 (fun i hi => (h4 i hi).2.2) (n' + 1) 0 mFuel 0 (by omega) (by unfold mFuel; omega)]
      refine ⟨_, rfl, ?_⟩
      rw [e55]
      exact congrArg (fun z => some (z, S)) (sm_congr _ _ _ (fun k _ hk => ((h4 k (by omega)).1).symm)))
