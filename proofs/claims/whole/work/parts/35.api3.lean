/-! PURE: keep, at, sample, lay -/
theorem iSt.frame {S S' : mM} {p i : Nat} (h : iSt S p i) (e : S'.1 (p + 2 + i) = S.1 (p + 2 + i)) (hr : ∀ a, 72 ≤ a ∧ a ≤ 77 → S'.1 a = S.1 a) : iSt S' p i := by
  unfold iSt at h ⊢
  rw [e, hr 72 (by omega), hr 73 (by omega), hr 74 (by omega), hr 75 (by omega), hr 76 (by omega), hr 77 (by omega)]
  exact h
theorem iHi.frame {S S' : mM} {p i f N : Nat} (h : iHi S p i f N) (e : S'.1 (p + 2 + i) = S.1 (p + 2 + i)) (e71 : S'.1 71 = S.1 71) : iHi S' p i f N := by
  unfold iHi at h ⊢
  rw [e, e71]
  exact h
theorem ag_keep (c : Nat) (p q : Int32) : Ag c (f_X11_keep p q) (f_X12_keep p q) := fun _ S h => by
  have hE := h.2.2.1.mono (show 64 * c ≤ 64 * (c + 1) by omega)
  obtain ⟨p0, N, cnt, h1, h2, h3, h4, h5, h6, h7, h8, h9, h10, h11, h12, ⟨s, hs, h13, h13'⟩, h14, h15, h16, h17, h18, h19, h20, h21, h22⟩ := hE
  unfold f_X11_keep f_X12_keep
  simp only [isIn_eq, mBind_of, in_eq, b01, l0, l100, h13, h13', bnd]
  by_cases g1 : 0 ≤ p ∧ p ≤ 100
  · by_cases g2 : 0 ≤ q ∧ q ≤ 100
    · simp only [g1, g2, and_self, not_true_eq_false, if_false]
      by_cases e1 : nI s = 1
      · simp only [e1, if_true]
        exact ⟨_, S, S, rfl, by simp only [h13', e1, if_true], h.mono (by omega)⟩
      · by_cases e2 : nI s = 2
        · refine ⟨-2, S, S, ?_, ?_, h.mono (by omega)⟩
          · simp [e2]
          · simp [h13', e2]
        · simp only [e1, e2, if_false]
          have e13 : (setI (setI S 7 4 p) 7 5 q).1 69 25 = nI s := by rw [setI_row _ _ _ _ (by omega), setI_row _ _ _ _ (by omega)]; exact h13'
          refine ⟨1, setI (setI S 7 4 p) 7 5 q, setI (setI (setI (setI S 7 4 p) 7 5 q) 69 26 p) 69 27 q, rfl, ?_, ?_⟩
          · simp only [e13, e1, e2, if_false]
          · obtain ⟨kp, hkp, rfl⟩ := (upto (n := 100) (by omega)).mp g1
            obtain ⟨kq, hkq, rfl⟩ := (upto (n := 100) (by omega)).mp g2
            generalize hS2 : setI (setI (setI (setI S 7 4 (nI kp)) 7 5 (nI kq)) 69 26 (nI kp)) 69 27 (nI kq) = S2
            have r : ∀ b, b ≠ 7 → b ≠ 69 → S2.1 b = S.1 b := fun b q1 q2 => by
              rw [← hS2, setI_row _ _ _ _ q2, setI_row _ _ _ _ q2, setI_row _ _ _ _ q1, setI_row _ _ _ _ q1]
            have r7 : ∀ j, j ≠ 4 → j ≠ 5 → S2.1 7 j = S.1 7 j := fun j q1 q2 => by
              rw [← hS2, setI_row _ _ _ _ (by omega), setI_row _ _ _ _ (by omega), setI_slot _ _ _ _ q2, setI_slot _ _ _ _ q1]
            have r69 : ∀ j, j ≠ 26 → j ≠ 27 → S2.1 69 j = S.1 69 j := fun j q1 q2 => by
              rw [← hS2, setI_slot _ _ _ _ q2, setI_slot _ _ _ _ q1, setI_row _ _ _ _ (by omega), setI_row _ _ _ _ (by omega)]
            have a4 : S2.1 7 4 = nI kp := by
              rw [← hS2, setI_row _ _ _ _ (by omega), setI_row _ _ _ _ (by omega), setI_slot _ _ _ _ (by omega), setI_same]
            have a5 : S2.1 7 5 = nI kq := by
              rw [← hS2, setI_row _ _ _ _ (by omega), setI_row _ _ _ _ (by omega), setI_same]
            have a26 : S2.1 69 26 = nI kp := by rw [← hS2, setI_slot _ _ _ _ (by omega), setI_same]
            have a27 : S2.1 69 27 = nI kq := by rw [← hS2, setI_same]
            have hP2 : S2.2 = S.2 := by rw [← hS2]; rfl
            have hp : p0 = 28 ∨ p0 = 36 := by rcases h1 with z | z <;> omega
            refine ⟨by rw [← hS2]; exact (((h.1.w rfl).w rfl).w rfl).w rfl, by rw [← hS2]; exact iFt_w rfl (iFt_w rfl (iFt_w rfl (iFt_w rfl h.2.1))), ⟨p0, N, cnt, by rw [hP2]; exact h1, by rw [hP2]; exact h2, h3, by rw [r p0 (by omega) (by omega)]; exact h4, by rw [r69 4 (by omega) (by omega)]; exact h5, fun i hi => (h6 i hi).frame (r _ (by omega) (by omega)) (fun a ha => r a (by omega) (by omega)), h7, by rw [r 8 (by omega) (by omega)]; exact h8, by rw [r69 3 (by omega) (by omega)]; exact h9, by rw [r 9 (by omega) (by omega), r 71 (by omega) (by omega)]; exact h10, ⟨kp, hkp, a4, a26⟩, ⟨kq, hkq, a5, a27⟩, ⟨s, hs, by rw [r7 6 (by omega) (by omega)]; exact h13, by rw [r69 25 (by omega) (by omega)]; exact h13'⟩, by rw [r7 7 (by omega) (by omega), r69 28 (by omega) (by omega)]; exact h14, by rw [r7 8 (by omega) (by omega), r69 29 (by omega) (by omega)]; exact h15, by rw [r7 9 (by omega) (by omega), r69 30 (by omega) (by omega)]; exact h16, by rw [r7 10 (by omega) (by omega), r69 31 (by omega) (by omega)]; exact h17, by rw [r7 11 (by omega) (by omega), r69 32 (by omega) (by omega)]; exact h18, by rw [r7 12 (by omega) (by omega), r69 33 (by omega) (by omega)]; exact h19, ?_, ?_, by rw [r7 11 (by omega) (by omega)]; exact h22⟩, ?_, by rw [← hS2]; exact (((h.2.2.2.2.1.w rfl).w rfl).w rfl).w rfl, by rw [← hS2]; exact (((h.2.2.2.2.2.1.w rfl).w rfl).w rfl).w rfl, by rw [← hS2]; exact iBy_w rfl (iBy_w rfl (iBy_w rfl (iBy_w rfl h.2.2.2.2.2.2.1))), by rw [← hS2]; exact (((h.2.2.2.2.2.2.2.w rfl).w rfl).w rfl).w rfl⟩
            · rw [r7 6 (by omega) (by omega), h13]
              exact fun z => absurd z e1
            · rw [r7 6 (by omega) (by omega), h13]
              exact fun z => absurd z e2
            · rw [← hS2]
              exact (((h.2.2.2.1.w rfl).w rfl).w rfl).w rfl
    · simp only [g1, g2, not_true_eq_false, not_false_eq_true, if_false, if_true]
      exact ⟨_, S, S, rfl, rfl, h.mono (by omega)⟩
  · simp only [g1, not_false_eq_true, if_true]
    exact ⟨_, S, S, rfl, rfl, h.mono (by omega)⟩
theorem isTrace_eq (p : Int32) (S : mM) : f_X11_isTrace p S = some (if 0 ≤ p ∧ p ≤ 3 then 1 else 0, S) := by
  unfold f_X11_isTrace
  rw [isIn_eq, mBind_of, if_pos b01']
theorem hasTrace_eq {S : mM} {n : Nat} (hn : n ≤ 8) (h : S.1 10 1 = nI n) (p t : Int32) : f_X11_hasTrace p t S = some (if (∃ k, k < n ∧ p = nI k) ∧ (0 ≤ t ∧ t ≤ 3) then 1 else 0, S) := by
  unfold f_X11_hasTrace
  rw [store_has hn h, mBind_of, isTrace_eq, mBind_of]
  by_cases a : ∃ k, k < n ∧ p = nI k
  · by_cases b : 0 ≤ t ∧ t ≤ 3
    · simp [a, b]
    · simp [a, b]
  · simp [a]
/-- a segment's number at a place -/
theorem seg_at {S : mM} {k n i : Nat} {t : Int32} (hk : k < 8) (hn : n ≤ 201) (h : S.1 (12 + 2 * k) 2 = nI n) (hi : i < n) : f_X5_numberAt (12 + 2 * k) t (nI i) S = some (nb t (S.1 (13 + 2 * k) i), S) := by
  have e : ∃ k', k' < n ∧ nI i = nI k' := ⟨i, hi, rfl⟩
  unfold f_X5_numberAt f_X5_has f_X11_numberOn
  rw [isIn_eq, mBind_of, if_pos b01', mBind_of, h]
  simp only [below (p := nI i) (c := n) (by omega), e, if_true, mBind_of, if_pos (ix (show i < 201 by omega) (by omega)), if_pos (ixc (show i < 201 by omega) (by omega)), nI_clamp (show i < 2 ^ 31 by omega), show 12 + 2 * k + 1 = 13 + 2 * k by omega]
  rfl
theorem val_at {S : mM} {k i : Nat} {t : Int32} (hk : k < 8) (hi : i < 201) : f_X12_valueAt (nI k) t (nI i) S = some (nb t (S.1 87 (201 * k + i)), S) := by
  have e : (201 : Int32) * nI k + nI i = nI (201 * k + i) := by rw [show (201 : Int32) = nI 201 from rfl, nI_mul, nI_add]
  unfold f_X12_valueAt
  rw [e, if_pos (ix (show 201 * k + i < 1608 by omega) (by omega)), nI_clamp (by omega)]
  rfl
theorem ag_at (c : Nat) (p t i : Int32) : Ag c (f_X11_at p t i) (f_X12_at p t i) := Ag.read (fun S h => by
  obtain ⟨n, hn, h1, h2, -, h4⟩ := h.2.2.2.1
  unfold f_X11_at f_X12_at
  rw [hasTrace_eq hn h1, isSeg hn h2, mBind_of, mBind_of, in_eq, mBind_of]
  simp only [b01, l0, l3]
  by_cases hk : ∃ k, k < n ∧ p = nI k
  · obtain ⟨k, hk, rfl⟩ := hk
    have e : ∃ k', k' < n ∧ nI k = nI k' := ⟨k, hk, rfl⟩
    obtain ⟨-, a2, -, m, m1, m2, m3, m4⟩ := h4 k hk
    by_cases ht : 0 ≤ t ∧ t ≤ 3
    · rw [store_get hn h1 hk, mBind_of]
      simp only [e, ht, and_self, not_true_eq_false, if_false, kseg (show k < 8 by omega), if_true, if_pos (ix (show k < 8 by omega) (by omega)), if_pos (ixc (show k < 8 by omega) (by omega)), nI_clamp (show k < 2 ^ 31 by omega), m3, in_eq, mBind_of, b01, l0, l_le, below (p := i) (c := m) (by omega)]
      have a2' : S.1 (12 + 2 * k) 2 = nI m := a2.trans m3
      unfold f_X5_has
      rw [isIn_eq, mBind_of, if_pos b01', mBind_of, a2']
      simp only [b01, below (p := i) (c := m) (by omega)]
      by_cases hi : ∃ j, j < m ∧ i = nI j
      · obtain ⟨j, hj, rfl⟩ := hi
        have e2 : ∃ j', j' < m ∧ nI j = nI j' := ⟨j, hj, rfl⟩
        simp only [e2, not_true_eq_false, if_false]
        rw [seg_at (by omega) m2 a2' hj, val_at (by omega) (by omega), mBind_of, mBind_of, m4 j hj]
        exact ⟨_, rfl, rfl⟩
      · simp only [hi, not_false_eq_true, if_true]
        exact ⟨_, rfl, rfl⟩
    · simp only [e, ht, and_false, not_false_eq_true, not_true_eq_false, if_true, if_false]
      exact ⟨_, rfl, rfl⟩
  · simp only [hk, false_and, not_false_eq_true, if_true]
    exact ⟨_, rfl, rfl⟩)
