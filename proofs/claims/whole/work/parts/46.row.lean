/-! PURE: row (its two loops) -/
theorem copy_loop {r k n : Nat} {t : Int32} (hr : r < 4) (hk : k < 8) (hn : n ≤ 201) : ∀ (m i f : Nat) (S : mM), S.1 (54 + 3 * r) 2 = nI n → S.1 (12 + 2 * k) 2 = nI n → i + m = n → m < f →
    ∃ S', f_X3_copyOf_10 f (54 + 3 * r) (12 + 2 * k) t (nI i) S = some ((), S') ∧ (∀ b, b ≠ 56 + 3 * r → S'.1 b = S.1 b) ∧ (∀ b, b ≠ 55 + 3 * r → S'.2.1 b = S.2.1 b) ∧ S'.2.2 = S.2.2 ∧
      (∀ j, S'.2.1 (55 + 3 * r) j = if i ≤ j ∧ j < n then (nb t (S.1 (13 + 2 * k) j)).toInt64 else S.2.1 (55 + 3 * r) j) ∧ (∀ j, S'.1 (56 + 3 * r) j = if i ≤ j ∧ j < n then 0 else S.1 (56 + 3 * r) j)
  | 0, i, f + 1, S, h1, h2, hm, _ => by
    refine ⟨S, ?_, fun _ _ => rfl, fun _ _ => rfl, rfl, fun j => ?_, fun j => ?_⟩
    · unfold f_X3_copyOf_10
      rw [h1, if_pos (nI_le (by omega) (by omega))]
    · rw [if_neg (by omega)]
    · rw [if_neg (by omega)]
  | m + 1, i, f + 1, S, h1, h2, hm, hf => by
    have e1 : 54 + 3 * r + 1 = 55 + 3 * r := by omega
    have e2 : 54 + 3 * r + 2 = 56 + 3 * r := by omega
    generalize hv : (nb t (S.1 (13 + 2 * k) i)).toInt64 = v
    have rI : ∀ b, b ≠ 56 + 3 * r → (setI (setJ S (55 + 3 * r) i v) (56 + 3 * r) i 0).1 b = S.1 b := fun b hb => by rw [setI_row _ _ _ _ hb, setJ_1]
    obtain ⟨S', k1, k2, k3, k4, k5, k6⟩ := copy_loop (t := t) hr hk hn m (i + 1) f (setI (setJ S (55 + 3 * r) i v) (56 + 3 * r) i 0) (by rw [rI _ (by omega)]; exact h1) (by rw [rI _ (by omega)]; exact h2) (by omega) (by omega)
    refine ⟨S', ?_, fun b hb => ?_, fun b hb => ?_, k4, fun j => ?_, fun j => ?_⟩
    · unfold f_X3_copyOf_10
      rw [h1, if_neg (nI_ge (by omega) (by omega)), seg_at hk hn h2 (by omega), mBind_of, hv]
      unfold f_X3_put
      rw [if_pos (ix (show i < 201 by omega) (by omega)), nI_clamp (by omega)]
      simp only [bnd, if_pos (ixc (show i < 201 by omega) (by omega)), e1, e2, mBind_of, nI_1]
      exact k1
    · rw [k2 b hb, rI b hb]
    · rw [k3 b hb, setI_2, setJ_row _ _ _ _ hb]
    · rw [k5 j, rI _ (by omega), setI_2, setJ_2]
      by_cases e : j = i
      · subst e
        rw [if_neg (by omega), if_pos ⟨rfl, rfl⟩, if_pos (by omega), hv]
      · rw [if_neg (show ¬ (55 + 3 * r = 55 + 3 * r ∧ j = i) from fun q => e q.2)]
        by_cases q : i ≤ j ∧ j < n
        · rw [if_pos (by omega), if_pos q]
        · rw [if_neg (by omega), if_neg q]
    · rw [k6 j, setI_1]
      by_cases e : j = i
      · subst e
        rw [if_neg (by omega), if_pos ⟨rfl, rfl⟩, if_pos (by omega)]
      · rw [if_neg (show ¬ (56 + 3 * r = 56 + 3 * r ∧ j = i) from fun q => e q.2), setJ_1]
        by_cases q : i ≤ j ∧ j < n
        · rw [if_pos (by omega), if_pos q]
        · rw [if_neg (by omega), if_neg q]
theorem refrow_loop {r k n : Nat} {t : Int32} (hr : r < 4) (hk : k < 8) (hn : n ≤ 201) : ∀ (m i f : Nat) (S : mM), S.1 85 k = nI n → S.1 91 r = nI n → i + m = n → m < f →
    ∃ S', f_X12_row_49 f (nI r) (nI k) t (nI i) S = some (nI n, S') ∧ (∀ b, b ≠ 93 → S'.1 b = S.1 b) ∧ (∀ b, b ≠ 92 → S'.2.1 b = S.2.1 b) ∧ S'.2.2 = S.2.2 ∧
      (∀ j, S'.2.1 92 j = if 201 * r + i ≤ j ∧ j < 201 * r + n then (nb t (S.1 87 (201 * k + (j - 201 * r)))).toInt64 else S.2.1 92 j) ∧ (∀ j, S'.1 93 j = if 201 * r + i ≤ j ∧ j < 201 * r + n then 0 else S.1 93 j)
  | 0, i, f + 1, S, h1, h2, hm, _ => by
    refine ⟨S, ?_, fun _ _ => rfl, fun _ _ => rfl, rfl, fun j => ?_, fun j => ?_⟩
    · unfold f_X12_row_49
      rw [if_pos (ix (show k < 8 by omega) (by omega)), nI_clamp (by omega), h1, if_pos (nI_le (by omega) (by omega)), if_pos (ix (show r < 4 by omega) (by omega)), nI_clamp (by omega), h2]
    · rw [if_neg (by omega)]
    · rw [if_neg (by omega)]
  | m + 1, i, f + 1, S, h1, h2, hm, hf => by
    generalize hv : (nb t (S.1 87 (201 * k + i))).toInt64 = v
    have rI : ∀ b, b ≠ 93 → (setI (setJ S 92 (201 * r + i) v) 93 (201 * r + i) 0).1 b = S.1 b := fun b hb => by rw [setI_row _ _ _ _ hb, setJ_1]
    obtain ⟨S', k1, k2, k3, k4, k5, k6⟩ := refrow_loop (t := t) hr hk hn m (i + 1) f (setI (setJ S 92 (201 * r + i) v) 93 (201 * r + i) 0) (by rw [rI _ (by omega)]; exact h1) (by rw [rI _ (by omega)]; exact h2) (by omega) (by omega)
    refine ⟨S', ?_, fun b hb => ?_, fun b hb => ?_, k4, fun j => ?_, fun j => ?_⟩
    · unfold f_X12_row_49
      rw [if_pos (ix (show k < 8 by omega) (by omega)), nI_clamp (by omega), h1, if_neg (nI_ge (by omega) (by omega)), val_at hk (by omega), mBind_of, hv, rowAt, if_pos (ix (show 201 * r + i < 804 by omega) (by omega)), nI_clamp (by omega)]
      simp only [bnd, if_pos (ixc (show 201 * r + i < 804 by omega) (by omega)), nI_1]
      exact k1
    · rw [k2 b hb, rI b hb]
    · rw [k3 b hb, setI_2, setJ_row _ _ _ _ hb]
    · rw [k5 j, rI _ (by omega), setI_2, setJ_2]
      by_cases e : j = 201 * r + i
      · subst e
        rw [if_neg (by omega), if_pos ⟨rfl, rfl⟩, if_pos (by omega), Nat.add_sub_cancel_left, hv]
      · rw [if_neg (show ¬ (92 = 92 ∧ j = 201 * r + i) from fun q => e q.2)]
        by_cases q : 201 * r + i ≤ j ∧ j < 201 * r + n
        · rw [if_pos (by omega), if_pos q]
        · rw [if_neg (by omega), if_neg q]
    · rw [k6 j, setI_1]
      by_cases e : j = 201 * r + i
      · subst e
        rw [if_neg (by omega), if_pos ⟨rfl, rfl⟩, if_pos (by omega)]
      · rw [if_neg (show ¬ (93 = 93 ∧ j = 201 * r + i) from fun q => e q.2), setJ_1]
        by_cases q : 201 * r + i ≤ j ∧ j < 201 * r + n
        · rw [if_pos (by omega), if_pos q]
        · rw [if_neg (by omega), if_neg q]
theorem ag_row (c : Nat) (p q t : Int32) : Ag c (f_X11_row p q t) (f_X12_row p q t) := fun _ S h => by
  obtain ⟨ns, hns, s1, s2, s3, s4⟩ := h.2.2.2.1
  unfold f_X11_row f_X12_row
  simp only [isIn_eq, in_eq, mBind_of, b01, l0, l3]
  by_cases hp : 0 ≤ p ∧ p ≤ 3
  · simp only [if_nn hp]
    by_cases hq : ∃ k, k < ns ∧ q = nI k
    · by_cases ht : 0 ≤ t ∧ t ≤ 3
      · have hq' := hq
        obtain ⟨k, hk, rfl⟩ := hq
        obtain ⟨r, hr, rfl⟩ := (upto (n := 3) (by omega)).mp hp
        obtain ⟨-, a2, -, n, n1, n2, n3, n4⟩ := s4 k hk
        have a2' : S.1 (12 + 2 * k) 2 = nI n := a2.trans n3
        have e54 : 53 + 1 + 3 * r = 54 + 3 * r := by omega
        obtain ⟨S1, k1, k2, k3, k4, k5, k6⟩ := copy_loop (t := t) (r := r) (k := k) (by omega) (by omega) n2 n 0 mFuel (setI S (54 + 3 * r) 2 (nI n)) (setI_same _ _ _ _) (by rw [setI_row _ _ _ _ (by omega)]; exact a2') (by omega) (by unfold mFuel; omega)
        have g85 : S1.1 85 = S.1 85 := by rw [k2 _ (by omega), setI_row _ _ _ _ (by omega)]
        obtain ⟨S2, m1, m2, m3, m4, m5, m6⟩ := refrow_loop (t := t) (r := r) (k := k) (by omega) (by omega) n2 n 0 mFuel (setI S1 91 r (nI n)) (by rw [setI_row _ _ _ _ (by omega), g85]; exact n3) (setI_same _ _ _ _) (by omega) (by unfold mFuel; omega)
        have k1 : f_X3_copyOf (54 + 3 * r) (12 + 2 * k) t S = some ((), S1) := by
          unfold f_X3_copyOf
          rw [a2']
          exact k1
        refine ⟨nI n, S1, S2, ?_, ?_, ?_⟩
        · rw [hasTrace_eq hns s1, mBind_of, if_neg (fun z => b01.mp z ⟨hq', ht⟩), if_pos (ix (show r < 4 by omega) (by omega)), nI_clamp (by omega)]
          simp only [bnd, e54]
          rw [store_get hns s1 hk, mBind_of, if_pos (kseg (by omega)), k1, mBind_of, if_pos (ixc (show r < 4 by omega) (by omega)), k2 _ (by omega), setI_same]
        · rw [isSeg hns (show S1.1 69 34 = nI ns by rw [k2 _ (by omega), setI_row _ _ _ _ (by omega)]; exact s2), mBind_of, if_neg (fun z => b01.mp z hq'), if_nn ht, if_pos (ix (show k < 8 by omega) (by omega)), nI_clamp (show k < 2 ^ 31 by omega), if_pos (ix (show r < 4 by omega) (by omega)), nI_clamp (show r < 2 ^ 31 by omega), g85, n3]
          simp only [bnd]
          exact m1
        · have rA : ∀ b, b ≠ 54 + 3 * r → b ≠ 56 + 3 * r → b ≠ 91 → b ≠ 93 → S2.1 b = S.1 b := fun b q1 q2 q3 q4 => by rw [m2 b q4, setI_row _ _ _ _ q3, k2 b q2, setI_row _ _ _ _ q1]
          have r2 : S2.2.2 = S.2.2 := by rw [m4, setI_2, k4, setI_2]
          have h69 : S2.1 69 = S.1 69 := rA 69 (by omega) (by omega) (by omega) (by omega)
          refine ⟨h.1.frame (fun a ha => rA a (by unfold rwTp at ha; omega) (by unfold rwTp at ha; omega) (by unfold rwTp at ha; omega) (by unfold rwTp at ha; omega)) (by rw [h69]), by rw [rA 6 (by omega) (by omega) (by omega) (by omega), h69]; exact h.2.1, (h.2.2.1.mono (by omega)).frame (fun a ha => rA a (by unfold rwEn at ha; omega) (by unfold rwEn at ha; omega) (by unfold rwEn at ha; omega) (by unfold rwEn at ha; omega)) (fun j _ => by rw [h69]) r2, h.2.2.2.1.frame (fun a ha => rA a (by unfold rwSg at ha; omega) (by unfold rwSg at ha; omega) (by unfold rwSg at ha; omega) (by unfold rwSg at ha; omega)) (by rw [h69]) (by rw [rA 7 (by omega) (by omega) (by omega) (by omega)]), h.2.2.2.2.1.frame (fun a ha => rA a (by unfold rwSh at ha; omega) (by unfold rwSh at ha; omega) (by unfold rwSh at ha; omega) (by unfold rwSh at ha; omega)), ?_, by rw [rA 0 (by omega) (by omega) (by omega) (by omega), h69]; exact h.2.2.2.2.2.2.1, h.2.2.2.2.2.2.2.frame (fun a ha => rA a (by unfold rwWr at ha; omega) (by unfold rwWr at ha; omega) (by unfold rwWr at ha; omega) (by unfold rwWr at ha; omega)) (by rw [h69]) (by rw [h69])⟩
          intro r' hr'
          by_cases e : r' = r
          · subst e
            refine ⟨n, n2, ?_, ?_, fun i hi => ?_⟩
            · rw [m2 _ (by omega), setI_row _ _ _ _ (by omega), k2 _ (by omega), setI_same]
            · rw [m2 _ (by omega), setI_same, if_neg (by omega)]
            · have f1 : S2.2.1 (55 + 3 * r') i = (nb t (S.1 (13 + 2 * k) i)).toInt64 := by rw [m3 _ (by omega), setI_2, k5, if_pos (by omega), setI_row _ _ _ _ (by omega)]
              have f2 : S2.2.1 92 (201 * r' + i) = (nb t (S.1 87 (201 * k + i))).toInt64 := by rw [m5, if_pos (by omega), Nat.add_sub_cancel_left, setI_row _ _ _ _ (by omega), k2 _ (by omega), setI_row _ _ _ _ (by omega)]
              have f3 : S2.1 (56 + 3 * r') i = 0 := by rw [m2 _ (by omega), setI_row _ _ _ _ (by omega), k6, if_pos (by omega)]
              have f4 : S2.1 93 (201 * r' + i) = 0 := by rw [m6, if_pos (by omega)]
              exact ⟨by rw [f1, f2, n4 i hi], by rw [f3, f4], Or.inl f4⟩
          · obtain ⟨n', c1, c2, c3, c4⟩ := h.2.2.2.2.2.1 r' hr'
            refine ⟨n', c1, by rw [rA _ (by omega) (by omega) (by omega) (by omega)]; exact c2, ?_, fun i hi => ?_⟩
            · rw [m2 _ (by omega), setI_slot _ _ _ _ e, k2 _ (by omega), setI_row _ _ _ _ (by omega)]
              exact c3
            · have f1 : S2.2.1 (55 + 3 * r') = S.2.1 (55 + 3 * r') := by rw [m3 _ (by omega), setI_2, k3 _ (by omega), setI_2]
              have f2 : S2.2.1 92 (201 * r' + i) = S.2.1 92 (201 * r' + i) := by rw [m5, if_neg (by omega), setI_2, k3 _ (by omega), setI_2]
              have f3 : S2.1 (56 + 3 * r') = S.1 (56 + 3 * r') := rA _ (by omega) (by omega) (by omega) (by omega)
              have f4 : S2.1 93 (201 * r' + i) = S.1 93 (201 * r' + i) := by rw [m6, if_neg (by omega), setI_row _ _ _ _ (by omega), k2 _ (by omega), setI_row _ _ _ _ (by omega)]
              rw [f1, f2, f3, f4]
              exact c4 i hi
      · refine ⟨-1, S, S, ?_, ?_, h.mono (by omega)⟩
        · rw [hasTrace_eq hns s1, mBind_of, if_pos (b01.mpr (fun z => ht z.2))]
        · rw [isSeg hns s2, mBind_of, if_neg (fun z => b01.mp z hq), if_pos ht]
    · refine ⟨-1, S, S, ?_, ?_, h.mono (by omega)⟩
      · rw [hasTrace_eq hns s1, mBind_of, if_pos (b01.mpr (fun z => hq z.1))]
      · rw [isSeg hns s2, mBind_of, if_pos (b01.mpr hq)]
  · simp only [if_pos hp]
    exact ⟨_, S, S, rfl, rfl, h.mono (by omega)⟩
