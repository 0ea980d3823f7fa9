/-! PURE: the instrument: following highs -/
theorem hi_mk {S S1 T : mM} {p i f N : Nat} (hs : ∀ j, j ≠ 8 → j ≠ 9 → S1.1 (p + 2 + i) j = S.1 (p + 2 + i) j)
    (h8 : S1.1 (p + 2 + i) 8 = nI (hiN (fun k => nb (S.1 (p + 2 + i) 3) (T.1 71 k)) (S.1 (p + 2 + i) 5) f N))
    (h9 : 0 < hiN (fun k => nb (S.1 (p + 2 + i) 3) (T.1 71 k)) (S.1 (p + 2 + i) 5) f N → ((S1.1 (p + 2 + i) 9 = 0 ∨ S1.1 (p + 2 + i) 9 = 1) ∧
      (S1.1 (p + 2 + i) 9 = 1 ↔ ∃ k, N - hiN (fun k => nb (S.1 (p + 2 + i) 3) (T.1 71 k)) (S.1 (p + 2 + i) 5) f N ≤ k ∧ k < N ∧ S.1 (p + 2 + i) 6 ≤ nb (S.1 (p + 2 + i) 3) (T.1 71 k)))) : iHi2 S1 T p i f N := by
  unfold iHi2
  rw [hs 3 (by omega) (by omega), hs 5 (by omega) (by omega), hs 6 (by omega) (by omega)]
  exact ⟨h8, fun z => (h9 z).1, fun z => (h9 z).2⟩
theorem followHigh_eq {S T : mM} {p i f N : Nat} {ahead now : Int32} (hf : f < N) (hN : N < 33000) (hi : iHi2 S T p i f N) (ha : ahead = T.1 71 (N - 1)) (hn : now = T.1 71 N) :
    ∃ S1, f_X7_followHigh (p + 2 + i) ahead now S = some ((), S1) ∧ (∀ b, b ≠ p + 2 + i → S1.1 b = S.1 b) ∧ (∀ b j, j ≠ 8 → j ≠ 9 → S1.1 b j = S.1 b j) ∧ S1.2 = S.2 ∧ iHi2 S1 T p i f (N + 1) := by
  obtain ⟨i8, i9, i10⟩ := hi
  subst ha hn
  have hHs := hiN_s (v := fun k => nb (S.1 (p + 2 + i) 3) (T.1 71 k)) (a := S.1 (p + 2 + i) 5) hf
  have hHl := hiN_le (fun k => nb (S.1 (p + 2 + i) 3) (T.1 71 k)) (S.1 (p + 2 + i) 5) f N
  unfold f_X7_followHigh
  rw [numberOn_eq, mBind_of, numberOn_eq, mBind_of]
  by_cases q1 : S.1 (p + 2 + i) 5 ≤ nb (S.1 (p + 2 + i) 3) (T.1 71 N)
  · rw [if_pos q1]
    rw [if_neg (Int32.not_lt.mpr q1)] at hHs
    by_cases q2 : S.1 (p + 2 + i) 5 ≤ nb (S.1 (p + 2 + i) 3) (T.1 71 (N - 1))
    · rw [if_pos q2, i8]
      rw [if_neg (Int32.not_lt.mpr q2)] at hHs
      by_cases q3 : hiN (fun k => nb (S.1 (p + 2 + i) 3) (T.1 71 k)) (S.1 (p + 2 + i) 5) f N = 0
      · rw [if_pos q3] at hHs
        rw [if_pos (by rw [q3]; decide)]
        exact ⟨S, rfl, fun _ _ => rfl, fun _ _ _ _ => rfl, rfl, hi_mk (S := S) (fun _ _ _ => rfl) (by rw [hHs, i8, q3]) (fun z => by rw [hHs] at z; exact absurd z (by omega))⟩
      · rw [if_neg q3] at hHs
        rw [if_neg (nI_nle (by omega) (by omega)), nI_1]
        simp only [bnd]
        have j9 := i9 (by omega)
        have j10 := i10 (by omega)
        -- the new mark u, and what it says
        have fin : ∀ u : Int32, (u = 0 ∨ u = 1) → (u = 1 ↔ (S.1 (p + 2 + i) 9 = 1 ∨ S.1 (p + 2 + i) 6 ≤ nb (S.1 (p + 2 + i) 3) (T.1 71 N))) → ∃ S1, some ((), setI (setI S (p + 2 + i) 8 (nI (hiN (fun k => nb (S.1 (p + 2 + i) 3) (T.1 71 k)) (S.1 (p + 2 + i) 5) f N + 1))) (p + 2 + i) 9 u) = some ((), S1) ∧ (∀ b, b ≠ p + 2 + i → S1.1 b = S.1 b) ∧ (∀ b j, j ≠ 8 → j ≠ 9 → S1.1 b j = S.1 b j) ∧ S1.2 = S.2 ∧ iHi2 S1 T p i f (N + 1) := fun u hu hu' => by
          refine ⟨_, rfl, fun b hb => by rw [setI_row _ _ _ _ hb, setI_row _ _ _ _ hb], fun b j q1 q2 => by rw [setI_slot _ _ _ _ q2, setI_slot _ _ _ _ q1], rfl, hi_mk (S := S) (fun j q1 q2 => by rw [setI_slot _ _ _ _ q2, setI_slot _ _ _ _ q1]) (by rw [hHs, setI_slot _ _ _ _ (by omega), setI_same]) (fun _ => ?_)⟩
          rw [setI_same, hHs]
          refine ⟨hu, fun z => ?_, fun z => hu'.mpr ?_⟩
          · rcases hu'.mp z with c | c
            · obtain ⟨k, k1, k2, k3⟩ := j10.mp c
              exact ⟨k, by omega, by omega, k3⟩
            · exact ⟨N, by omega, by omega, c⟩
          · obtain ⟨k, k1, k2, k3⟩ := z
            by_cases c : k = N
            · rw [c] at k3
              exact Or.inr k3
            · exact Or.inl (j10.mpr ⟨k, by omega, by omega, k3⟩)
        rw [setI_slot _ _ _ _ (show 9 ≠ 8 by omega), setI_slot _ _ _ _ (show 6 ≠ 8 by omega)]
        rcases j9 with c | c
        · rw [if_pos c]
          by_cases q4 : nb (S.1 (p + 2 + i) 3) (T.1 71 N) < S.1 (p + 2 + i) 6
          · rw [if_pos q4]
            refine fin 0 (Or.inl rfl) ⟨fun z => absurd z (by decide), fun z => ?_⟩
            rcases z with z | z
            · rw [c] at z
              exact z
            · exact absurd z (Int32.not_le.mpr q4)
          · rw [if_neg q4]
            exact fin 1 (Or.inr rfl) ⟨fun _ => Or.inr (Int32.not_lt.mp q4), fun _ => rfl⟩
        · rw [if_neg (by rw [c]; decide)]
          exact fin 1 (Or.inr rfl) ⟨fun _ => Or.inl c, fun _ => rfl⟩
    · rw [if_neg q2]
      rw [if_pos (Int32.not_le.mp q2)] at hHs
      simp only [bnd]
      rw [setI_slot _ _ _ _ (show 6 ≠ 8 by omega)]
      have fin : ∀ u : Int32, (u = 0 ∨ u = 1) → (u = 1 ↔ S.1 (p + 2 + i) 6 ≤ nb (S.1 (p + 2 + i) 3) (T.1 71 N)) → ∃ S1, some ((), setI (setI S (p + 2 + i) 8 (1 : Int32)) (p + 2 + i) 9 u) = some ((), S1) ∧ (∀ b, b ≠ p + 2 + i → S1.1 b = S.1 b) ∧ (∀ b j, j ≠ 8 → j ≠ 9 → S1.1 b j = S.1 b j) ∧ S1.2 = S.2 ∧ iHi2 S1 T p i f (N + 1) := fun u hu hu' => by
        refine ⟨_, rfl, fun b hb => by rw [setI_row _ _ _ _ hb, setI_row _ _ _ _ hb], fun b j q1 q2 => by rw [setI_slot _ _ _ _ q2, setI_slot _ _ _ _ q1], rfl, hi_mk (S := S) (fun j q1 q2 => by rw [setI_slot _ _ _ _ q2, setI_slot _ _ _ _ q1]) (by rw [hHs, setI_slot _ _ _ _ (by omega), setI_same]; rfl) (fun _ => ?_)⟩
        rw [setI_same, hHs]
        refine ⟨hu, fun z => ⟨N, by omega, by omega, hu'.mp z⟩, fun z => hu'.mpr ?_⟩
        obtain ⟨k, k1, k2, k3⟩ := z
        rw [show k = N by omega] at k3
        exact k3
      by_cases q4 : nb (S.1 (p + 2 + i) 3) (T.1 71 N) < S.1 (p + 2 + i) 6
      · rw [if_pos q4]
        exact fin 0 (Or.inl rfl) ⟨fun z => absurd z (by decide), fun z => absurd z (Int32.not_le.mpr q4)⟩
      · rw [if_neg q4]
        exact fin 1 (Or.inr rfl) ⟨fun _ => Int32.not_lt.mp q4, fun _ => rfl⟩
  · rw [if_neg q1]
    rw [if_pos (Int32.not_le.mp q1)] at hHs
    simp only [bnd]
    exact ⟨_, rfl, fun b hb => setI_row _ _ _ _ hb, fun b j q1 _ => setI_slot _ _ _ _ q1 _, rfl, hi_mk (S := S) (fun j q1 _ => setI_slot _ _ _ _ q1 _) (by rw [hHs, setI_same]; rfl) (fun z => by rw [hHs] at z; exact absurd z (by omega))⟩
theorem iHi2.frame {S S' T T' : mM} {p i f N : Nat} (h : iHi2 S T p i f N) (e : S'.1 (p + 2 + i) = S.1 (p + 2 + i)) (e71 : T'.1 71 = T.1 71) : iHi2 S' T' p i f N := by
  unfold iHi2 at h ⊢
  rw [e, e71]
  exact h
theorem highs_loop {T : mM} {p cnt f N : Nat} {ahead now : Int32} (hc : cnt ≤ 6) (hf : f < N) (hN : N < 33000) (ha : ahead = T.1 71 (N - 1)) (hn : now = T.1 71 N) : ∀ (m i fu : Nat) (S : mM), i + m = cnt → m < fu → S.1 p 1 = nI cnt → (∀ j, i ≤ j → j < cnt → iHi2 S T p j f N) →
    ∃ S1, f_X0_followHighs_2 fu p ahead now (nI i) S = some ((), S1) ∧ (∀ b, (∀ j, j < cnt → b ≠ p + 2 + j) → S1.1 b = S.1 b) ∧ (∀ j, j < i → S1.1 (p + 2 + j) = S.1 (p + 2 + j)) ∧ (∀ b j, j ≠ 8 → j ≠ 9 → S1.1 b j = S.1 b j) ∧ S1.2 = S.2 ∧ ∀ j, i ≤ j → j < cnt → iHi2 S1 T p j f (N + 1)
  | 0, i, fu + 1, S, hm, _, h1, _ => by
    refine ⟨S, ?_, fun _ _ => rfl, fun _ _ => rfl, fun _ _ _ _ => rfl, rfl, fun j q1 q2 => absurd q1 (by omega)⟩
    unfold f_X0_followHighs_2
    rw [h1, if_pos (nI_le (by omega) (by omega))]
  | m + 1, i, fu + 1, S, hm, hfu, h1, hh => by
    obtain ⟨S1, k1, k2, k3, k4, k5⟩ := followHigh_eq (T := T) hf hN (hh i (by omega) (by omega)) ha hn
    obtain ⟨S2, m1, m2, m3, m4, m5, m6⟩ := highs_loop (T := T) hc hf hN ha hn m (i + 1) fu S1 (by omega) (by omega) (by rw [k3 p 1 (by omega) (by omega)]; exact h1) (fun j q1 q2 => (hh j (by omega) q2).frame (k2 _ (by omega)) rfl)
    refine ⟨S2, ?_, fun b hb => ?_, fun j hj => ?_, fun b j q1 q2 => ?_, ?_, fun j q1 q2 => ?_⟩
    · unfold f_X0_followHighs_2
      rw [h1, if_neg (nI_ge (by omega) (by omega)), if_pos (ix (show i < 6 by omega) (by omega)), nI_clamp (by omega), show p + 1 + 1 + i = p + 2 + i by omega]
      simp only [bnd]
      rw [k1, mBind_of, nI_1]
      exact m1
    · rw [m2 b hb, k2 b (hb i (by omega))]
    · rw [m3 j (by omega), k2 _ (by omega)]
    · rw [m4 b j q1 q2, k3 b j q1 q2]
    · rw [m5, k4]
    · by_cases e : j = i
      · subst e
        exact k5.frame (m3 j (by omega)) rfl
      · exact m6 j (by omega) q2
theorem forget_loop {p cnt : Nat} (hc : cnt ≤ 6) : ∀ (m i fu : Nat) (S : mM), i + m = cnt → m < fu → S.1 p 1 = nI cnt →
    ∃ S1, f_X0_forgetHighs_2 fu p (nI i) S = some ((), S1) ∧ (∀ b, (∀ j, j < cnt → b ≠ p + 2 + j) → S1.1 b = S.1 b) ∧ (∀ j, j < i → S1.1 (p + 2 + j) = S.1 (p + 2 + j)) ∧ (∀ b j, j ≠ 8 → S1.1 b j = S.1 b j) ∧ S1.2 = S.2 ∧ ∀ j, i ≤ j → j < cnt → S1.1 (p + 2 + j) 8 = 0
  | 0, i, fu + 1, S, hm, _, h1 => by
    refine ⟨S, ?_, fun _ _ => rfl, fun _ _ => rfl, fun _ _ _ => rfl, rfl, fun j q1 q2 => absurd q1 (by omega)⟩
    unfold f_X0_forgetHighs_2
    rw [h1, if_pos (nI_le (by omega) (by omega))]
  | m + 1, i, fu + 1, S, hm, hfu, h1 => by
    obtain ⟨S2, m1, m2, m3, m4, m5, m6⟩ := forget_loop hc m (i + 1) fu (setI S (p + 2 + i) 8 0) (by omega) (by omega) (by rw [setI_slot _ _ _ _ (by omega)]; exact h1)
    refine ⟨S2, ?_, fun b hb => ?_, fun j hj => ?_, fun b j q1 => ?_, ?_, fun j q1 q2 => ?_⟩
    · unfold f_X0_forgetHighs_2
      rw [h1, if_neg (nI_ge (by omega) (by omega)), if_pos (ix (show i < 6 by omega) (by omega)), nI_clamp (by omega), show p + 1 + 1 + i = p + 2 + i by omega]
      simp only [bnd]
      rw [nI_1]
      exact m1
    · rw [m2 b hb, setI_row _ _ _ _ (hb i (by omega))]
    · rw [m3 j (by omega), setI_row _ _ _ _ (by omega)]
    · rw [m4 b j q1, setI_slot _ _ _ _ q1]
    · rw [m5, setI_2]
    · by_cases e : j = i
      · subst e
        rw [m3 j (by omega), setI_same]
      · exact m6 j (by omega) q2
