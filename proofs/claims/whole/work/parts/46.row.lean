/-! PURE: row (its two loops) -/
theorem copy_loop {r k n : Nat} {t : Int32} (hr : r < 4) (hk : k < 8) (hn : n ≤ 201) : ∀ (m i f : Nat) (S : mM), S.1 (54 + 3 * r) 2 = nI n → S.1 (12 + 2 * k) 2 = nI n → i + m = n → m < f →
    ∃ S', f_X3_copyOf_10 f (54 + 3 * r) (12 + 2 * k) t (nI i) S = some ((), S') ∧ (∀ b, b ≠ 56 + 3 * r → S'.1 b = S.1 b) ∧ (∀ b, b ≠ 55 + 3 * r → S'.2.1 b = S.2.1 b) ∧ S'.2.2 = S.2.2 ∧
      (∀ j, S'.2.1 (55 + 3 * r) j = if i ≤ j ∧ j < n then (nb t (S.1 (13 + 2 * k) j)).toInt64 else S.2.1 (55 + 3 * r) j) ∧ (∀ j, S'.1 (56 + 3 * r) j = if i ≤ j ∧ j < n then 0 else S.1 (56 + 3 * r) j)
  | 0, i, f + 1, S, h1, h2, hm, _ => by
    refine ⟨S, ?_, fun _ _ => rfl, fun _ _ => rfl, rfl, fun j => ?_, fun j => ?_⟩
    · unfold f_X3_copyOf_10
      rw [h1, if_pos (nI_le (by omega) (by omega))]
    · rw [if_neg (by omega)]
    · rw [if_neg (by omega)]
  | m + 1, i, f + 1, S, h1, h2, hm, hf => by
    have e1 : 54 + 3 * r + 1 = 55 + 3 * r := by omega
    have e2 : 54 + 3 * r + 2 = 56 + 3 * r := by omega
    generalize hv : (nb t (S.1 (13 + 2 * k) i)).toInt64 = v
    have rI : ∀ b, b ≠ 56 + 3 * r → (setI (setJ S (55 + 3 * r) i v) (56 + 3 * r) i 0).1 b = S.1 b := fun b hb => by rw [setI_row _ _ _ _ hb, setJ_1]
    obtain ⟨S', k1, k2, k3, k4, k5, k6⟩ := copy_loop (t := t) hr hk hn m (i + 1) f (setI (setJ S (55 + 3 * r) i v) (56 + 3 * r) i 0) (by rw [rI _ (by omega)]; exact h1) (by rw [rI _ (by omega)]; exact h2) (by omega) (by omega)
    refine ⟨S', ?_, fun b hb => ?_, fun b hb => ?_, k4, fun j => ?_, fun j => ?_⟩
    · unfold f_X3_copyOf_10
      rw [h1, if_neg (nI_ge (by omega) (by omega)), seg_at hk hn h2 (by omega), mBind_of, hv]
      unfold f_X3_put
      rw [if_pos (ix (show i < 201 by omega) (by omega)), nI_clamp (by omega)]
      simp only [bnd, if_pos (ixc (show i < 201 by omega) (by omega)), e1, e2, mBind_of, nI_1]
      exact k1
    · rw [k2 b hb, rI b hb]
    · rw [k3 b hb, setI_2, setJ_row _ _ _ _ hb]
    · rw [k5 j, rI _ (by omega), setI_2, setJ_2]
      by_cases e : j = i
      · subst e
        rw [if_neg (by omega), if_pos ⟨rfl, rfl⟩, if_pos (by omega), hv]
      · rw [if_neg (show ¬ (55 + 3 * r = 55 + 3 * r ∧ j = i) from fun q => e q.2)]
        by_cases q : i ≤ j ∧ j < n
        · rw [if_pos (by omega), if_pos q]
        · rw [if_neg (by omega), if_neg q]
    · rw [k6 j, setI_1]
      by_cases e : j = i
      · subst e
        rw [if_neg (by omega), if_pos ⟨rfl, rfl⟩, if_pos (by omega)]
      · rw [if_neg (show ¬ (56 + 3 * r = 56 + 3 * r ∧ j = i) from fun q => e q.2), setJ_1]
        by_cases q : i ≤ j ∧ j < n
        · rw [if_pos (by omega), if_pos q]
        · rw [if_neg (by omega), if_neg q]
theorem refrow_loop {r k n : Nat} {t : Int32} (hr : r < 4) (hk : k < 8) (hn : n ≤ 201) : ∀ (m i f : Nat) (S : mM), S.1 85 k = nI n → S.1 91 r = nI n → i + m = n → m < f →
    ∃ S', f_X12_row_49 f (nI r) (nI k) t (nI i) S = some (nI n, S') ∧ (∀ b, b ≠ 93 → S'.1 b = S.1 b) ∧ (∀ b, b ≠ 92 → S'.2.1 b = S.2.1 b) ∧ S'.2.2 = S.2.2 ∧
      (∀ j, S'.2.1 92 j = if 201 * r + i ≤ j ∧ j < 201 * r + n then (nb t (S.1 87 (201 * k + (j - 201 * r)))).toInt64 else S.2.1 92 j) ∧ (∀ j, S'.1 93 j = if 201 * r + i ≤ j ∧ j < 201 * r + n then 0 else S.1 93 j)
  | 0, i, f + 1, S, h1, h2, hm, _ => by
    refine ⟨S, ?_, fun _ _ => rfl, fun _ _ => rfl, rfl, fun j => ?_, fun j => ?_⟩
    · unfold f_X12_row_49
      rw [if_pos (ix (show k < 8 by omega) (by omega)), nI_clamp (by omega), h1, if_pos (nI_le (by omega) (by omega)), if_pos (ix (show r < 4 by omega) (by omega)), nI_clamp (by omega), h2]
    · rw [if_neg (by omega)]
    · rw [if_neg (by omega)]
  | m + 1, i, f + 1, S, h1, h2, hm, hf => by
    generalize hv : (nb t (S.1 87 (201 * k + i))).toInt64 = v
    have rI : ∀ b, b ≠ 93 → (setI (setJ S 92 (201 * r + i) v) 93 (201 * r + i) 0).1 b = S.1 b := fun b hb => by rw [setI_row _ _ _ _ hb, setJ_1]
    obtain ⟨S', k1, k2, k3, k4, k5, k6⟩ := refrow_loop (t := t) hr hk hn m (i + 1) f (setI (setJ S 92 (201 * r + i) v) 93 (201 * r + i) 0) (by rw [rI _ (by omega)]; exact h1) (by rw [rI _ (by omega)]; exact h2) (by omega) (by omega)
    refine ⟨S', ?_, fun b hb => ?_, fun b hb => ?_, k4, fun j => ?_, fun j => ?_⟩
    · unfold f_X12_row_49
      rw [if_pos (ix (show k < 8 by omega) (by omega)), nI_clamp (by omega), h1, if_neg (nI_ge (by omega) (by omega)), val_at hk (by omega), mBind_of, hv, rowAt, if_pos (ix (show 201 * r + i < 804 by omega) (by omega)), nI_clamp (by omega)]
      simp only [bnd, if_pos (ixc (show 201 * r + i < 804 by omega) (by omega)), nI_1]
      exact k1
    · rw [k2 b hb, rI b hb]
    · rw [k3 b hb, setI_2, setJ_row _ _ _ _ hb]
    · rw [k5 j, rI _ (by omega), setI_2, setJ_2]
      by_cases e : j = 201 * r + i
      · subst e
        rw [if_neg (by omega), if_pos ⟨rfl, rfl⟩, if_pos (by omega), Nat.add_sub_cancel_left, hv]
      · rw [if_neg (show ¬ (92 = 92 ∧ j = 201 * r + i) from fun q => e q.2)]
        by_cases q : 201 * r + i ≤ j ∧ j < 201 * r + n
        · rw [if_pos (by omega), if_pos q]
        · rw [if_neg (by omega), if_neg q]
    · rw [k6 j, setI_1]
      by_cases e : j = 201 * r + i
      · subst e
        rw [if_neg (by omega), if_pos ⟨rfl, rfl⟩, if_pos (by omega)]
      · rw [if_neg (show ¬ (93 = 93 ∧ j = 201 * r + i) from fun q => e q.2), setJ_1]
        by_cases q : 201 * r + i ≤ j ∧ j < 201 * r + n
        · rw [if_pos (by omega), if_pos q]
        · rw [if_neg (by omega), if_neg q]
