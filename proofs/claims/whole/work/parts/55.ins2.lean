/-! PURE: the instrument in two memories: the class in S, the reference in T -/
def eK (S T : mM) (p N cnt B A : Nat) : Prop :=
  ((p = 28 ∧ S.2.2 7 3 = 36) ∨ (p = 36 ∧ S.2.2 7 3 = 28)) ∧ S.2.2 7 2 = p ∧ cnt ≤ 6 ∧ S.1 p 1 = nI cnt ∧ T.1 69 4 = nI cnt ∧ (∀ i, i < cnt → iSt2 S T p i) ∧
  S.1 8 1 = nI N ∧ T.1 69 3 = nI N ∧ (∀ k, k < N → N ≤ k + 256 → S.1 9 (k % 256) = T.1 71 k) ∧
  B ≤ 100 ∧ S.1 7 4 = nI B ∧ T.1 69 26 = nI B ∧ A ≤ 100 ∧ S.1 7 5 = nI A ∧ T.1 69 27 = nI A
def eE (S T : mM) (s f g h w a r : Int32) : Prop :=
  S.1 7 6 = s ∧ T.1 69 25 = s ∧ S.1 7 7 = f ∧ T.1 69 28 = f ∧ S.1 7 8 = g ∧ T.1 69 29 = g ∧ S.1 7 9 = h ∧ T.1 69 30 = h ∧ S.1 7 10 = w ∧ T.1 69 31 = w ∧ S.1 7 11 = a ∧ T.1 69 32 = a ∧ S.1 7 12 = r ∧ T.1 69 33 = r
def st1 (S T : mM) (p N cnt f g h w : Nat) : Prop :=
  f ≤ N ∧ g < cnt ∧ nI h < S.1 (p + 2 + g) 1 ∧ h ≤ 20 ∧ f ≤ w ∧ w ≤ N ∧ (f < N → w < N) ∧ (S.1 (p + 2 + g) 2 = 0 ∨ nI N ≤ nI w + S.1 (p + 2 + g) 2) ∧ ∀ i, i < cnt → iHi2 S T p i f N
def iEn2 (m : Nat) (S T : mM) : Prop := ∃ p N cnt B A s f g h w a r, eK S T p N cnt B A ∧ N ≤ m ∧ eE S T s f g h w a r ∧ (∃ k, k ≤ 3 ∧ s = nI k) ∧
  (s = 1 → ∃ f' g' h' w', f = nI f' ∧ g = nI g' ∧ h = nI h' ∧ w = nI w' ∧ st1 S T p N cnt f' g' h' w') ∧
  (s = 2 → ∃ f' r', 0 < cnt ∧ f = nI f' ∧ f' ≤ r' ∧ r = nI r' ∧ r' < N ∧ N ≤ r' + A) ∧ (∃ t, t ≤ m ∧ a = nI t)
theorem iEn.two {m : Nat} {S : mM} (hm : m < 2 ^ 30) (h : iEn m S) : iEn2 m S S := by
  obtain ⟨p, N, cnt, h1, h2, h3, h4, h5, h6, h7, h8, h9, h10, ⟨B, hB, h11, h11'⟩, ⟨A, hA, h12, h12'⟩, ⟨s, hs, h13, h13'⟩, h14, h15, h16, h17, h18, h19, h20, h21, t, h22, h23⟩ := h
  refine ⟨p, N, cnt, B, A, S.1 7 6, S.1 7 7, S.1 7 8, S.1 7 9, S.1 7 10, S.1 7 11, S.1 7 12, ⟨h1, h2, h3, h4, h5, h6, h8, h9, h10, hB, h11, h11', hA, h12, h12'⟩, h7, ⟨rfl, by rw [h13, h13'], rfl, h14.symm, rfl, h15.symm, rfl, h16.symm, rfl, h17.symm, rfl, h18.symm, rfl, h19.symm⟩, ⟨s, hs, h13⟩, fun z => ?_, fun z => ?_, t, h22, h23⟩
  · obtain ⟨f, g, hh, w, k1, k2, k3, k4, k5, k6, k7, k8, k9, k10, k11, k12, k13⟩ := h20 z
    exact ⟨f, g, hh, w, k1, k3, k5, k8, k2, k4, k6, k7, k9, k10, k11, k12, k13⟩
  · obtain ⟨f, r, k0, k1, k2, k3, k4, k5⟩ := h21 z
    refine ⟨f, r, k0, k1, k2, k3, k4, ?_⟩
    rw [h12, nI_add, nI_leI (by omega) (by omega)] at k5
    exact k5
theorem iEn2.one {m : Nat} {S : mM} (hm : m < 2 ^ 30) (h : iEn2 m S S) : iEn m S := by
  obtain ⟨p, N, cnt, B, A, s, f, g, h, w, a, r, ⟨h1, h2, h3, h4, h5, h6, h8, h9, h10, hB, h11, h11', hA, h12, h12'⟩, h7, ⟨e1, e2, e3, e4, e5, e6, e7, e8, e9, e10, e11, e12, e13, e14⟩, ⟨k, hk, rfl⟩, h20, h21, t, h22, rfl⟩ := h
  refine ⟨p, N, cnt, h1, h2, h3, h4, h5, h6, h7, h8, h9, h10, ⟨B, hB, h11, h11'⟩, ⟨A, hA, h12, h12'⟩, ⟨k, hk, e1, e2⟩, by rw [e3, e4], by rw [e5, e6], by rw [e7, e8], by rw [e9, e10], by rw [e11, e12], by rw [e13, e14], fun z => ?_, fun z => ?_, t, h22, e11⟩
  · obtain ⟨f, g, hh, w, rfl, rfl, rfl, rfl, k2, k4, k6, k7, k9, k10, k11, k12, k13⟩ := h20 (by rw [← e1]; exact z)
    exact ⟨f, g, hh, w, e3, k2, e5, k4, e7, k6, k7, e9, k9, k10, k11, k12, k13⟩
  · obtain ⟨f, r, k0, rfl, k2, rfl, k4, k5⟩ := h21 (by rw [← e1]; exact z)
    refine ⟨f, r, k0, e3, k2, e13, k4, ?_⟩
    rw [h12, nI_add, nI_leI (by omega) (by omega)]
    exact k5
theorem iSt2.frame {S S' T T' : mM} {p i : Nat} (h : iSt2 S T p i) (e : ∀ j, j ≠ 8 → j ≠ 9 → S'.1 (p + 2 + i) j = S.1 (p + 2 + i) j) (hr : ∀ a, 72 ≤ a → a ≤ 77 → T'.1 a = T.1 a) : iSt2 S' T' p i := by
  unfold iSt2 at h ⊢
  rw [e 0 (by omega) (by omega), e 1 (by omega) (by omega), e 2 (by omega) (by omega), e 3 (by omega) (by omega), e 4 (by omega) (by omega), e 5 (by omega) (by omega), e 6 (by omega) (by omega), e 7 (by omega) (by omega),
    hr 72 (by omega) (by omega), hr 73 (by omega) (by omega), hr 74 (by omega) (by omega), hr 75 (by omega) (by omega), hr 76 (by omega) (by omega), hr 77 (by omega) (by omega)]
  exact h
theorem eK.fr {S S' T T' : mM} {p N cnt B A : Nat} (h : eK S T p N cnt B A) (h2 : S'.2 = S.2) (h8 : S'.1 8 = S.1 8) (h9 : S'.1 9 = S.1 9) (h74 : S'.1 7 4 = S.1 7 4) (h75 : S'.1 7 5 = S.1 7 5) (hst : ∀ b, 28 ≤ b → b ≤ 43 → ∀ j, j ≠ 8 → j ≠ 9 → S'.1 b j = S.1 b j)
    (t69 : ∀ j, j = 3 ∨ j = 4 ∨ j = 26 ∨ j = 27 → T'.1 69 j = T.1 69 j) (tr : ∀ b, 71 ≤ b → b ≤ 77 → T'.1 b = T.1 b) : eK S' T' p N cnt B A := by
  obtain ⟨k1, k2, k3, k4, k5, k6, k7, k8, k9, k10, k11, k12, k13, k14, k15⟩ := h
  have hp : p = 28 ∨ p = 36 := by rcases k1 with z | z <;> omega
  refine ⟨by rw [h2]; exact k1, by rw [h2]; exact k2, k3, by rw [hst p (by omega) (by omega) 1 (by omega) (by omega)]; exact k4, by rw [t69 4 (by omega)]; exact k5, fun i hi => (k6 i hi).frame (fun j q1 q2 => hst _ (by omega) (by omega) j q1 q2) (fun a q1 q2 => tr a (by omega) q2), by rw [h8]; exact k7, by rw [t69 3 (by omega)]; exact k8, by rw [h9, tr 71 (by omega) (by omega)]; exact k9, k10, by rw [h74]; exact k11, by rw [t69 26 (by omega)]; exact k12, k13, by rw [h75]; exact k14, by rw [t69 27 (by omega)]; exact k15⟩
/-- what following may change -/
def cQ (S S' : mM) : Prop := (∀ b, b ≠ 7 → ¬ (28 ≤ b ∧ b ≤ 43) → S'.1 b = S.1 b) ∧ (∀ b j, b ≠ 7 → j ≠ 8 → j ≠ 9 → S'.1 b j = S.1 b j) ∧ S'.1 7 4 = S.1 7 4 ∧ S'.1 7 5 = S.1 7 5 ∧ S'.2 = S.2
def rQ (T T' : mM) : Prop := (∀ b, b ≠ 69 → T'.1 b = T.1 b) ∧ (∀ j, j ≠ 25 → ¬ (28 ≤ j ∧ j ≤ 33) → T'.1 69 j = T.1 69 j) ∧ T'.2 = T.2
theorem eK.q {S S' T T' : mM} {p N cnt B A : Nat} (h : eK S T p N cnt B A) (c : cQ S S') (r : rQ T T') : eK S' T' p N cnt B A :=
  h.fr c.2.2.2.2 (c.1 8 (by omega) (by omega)) (c.1 9 (by omega) (by omega)) c.2.2.1 c.2.2.2.1 (fun b q1 q2 j q3 q4 => c.2.1 b j (by omega) q3 q4) (fun j hj => r.2.1 j (by omega) (by omega)) (fun b q1 q2 => r.1 b (by omega))
theorem cQ.rfl {S : mM} : cQ S S := ⟨fun _ _ _ => Eq.refl _, fun _ _ _ _ _ => Eq.refl _, Eq.refl _, Eq.refl _, Eq.refl _⟩
theorem rQ.rfl {S : mM} : rQ S S := ⟨fun _ _ => Eq.refl _, fun _ _ _ => Eq.refl _, Eq.refl _⟩
theorem cQ.tr {S S1 S2 : mM} (h : cQ S S1) (k : cQ S1 S2) : cQ S S2 := ⟨fun b q1 q2 => (k.1 b q1 q2).trans (h.1 b q1 q2), fun b j q1 q2 q3 => (k.2.1 b j q1 q2 q3).trans (h.2.1 b j q1 q2 q3), k.2.2.1.trans h.2.2.1, k.2.2.2.1.trans h.2.2.2.1, k.2.2.2.2.trans h.2.2.2.2⟩
theorem rQ.tr {S S1 S2 : mM} (h : rQ S S1) (k : rQ S1 S2) : rQ S S2 := ⟨fun b q1 => (k.1 b q1).trans (h.1 b q1), fun j q1 q2 => (k.2.1 j q1 q2).trans (h.2.1 j q1 q2), k.2.2.trans h.2.2⟩
theorem cQ.set {S : mM} {j : Nat} {v : Int32} (h4 : j ≠ 4) (h5 : j ≠ 5) : cQ S (setI S 7 j v) := ⟨fun b q _ => setI_row _ _ _ _ q, fun b _ q _ _ => by rw [setI_row _ _ _ _ q], setI_slot _ _ _ _ (Ne.symm h4) _, setI_slot _ _ _ _ (Ne.symm h5) _, Eq.refl _⟩
theorem rQ.set {T : mM} {j : Nat} {v : Int32} (hj : j = 25 ∨ (28 ≤ j ∧ j ≤ 33)) : rQ T (setI T 69 j v) := ⟨fun b q => setI_row _ _ _ _ q, fun i q1 q2 => setI_slot _ _ _ _ (by omega) _, Eq.refl _⟩
theorem kplan {p : Nat} (h : p = 28 ∨ p = 36) : mKind p = 0 := by rcases h with rfl | rfl <;> decide
/-- one stage forward, or none: the class behind its highs, the reference -/
theorem follow_ag {S T : mM} {p N cnt B A f g h w t : Nat} {r ahead now : Int32} (K : eK S T p (N + 1) cnt B A) (E : eE S T 1 (nI f) (nI g) (nI h) (nI w) (nI t) r) (hf : f < N) (hN : N < 33000)
    (hg : g < cnt) (hh : nI h < S.1 (p + 2 + g) 1) (hh20 : h ≤ 20) (hfw : f ≤ w) (hwN : w < N) (hl : S.1 (p + 2 + g) 2 = 0 ∨ nI N ≤ nI w + S.1 (p + 2 + g) 2) (hi : ∀ i, i < cnt → iHi2 S T p i f N) (ha : ahead = T.1 71 (N - 1)) (hn : now = T.1 71 N) :
    ∃ S1 T1, f_X4_follow (nI N) ahead now S = some ((), S1) ∧ f_X12_follows (nI N) T = some ((), T1) ∧ cQ S S1 ∧ rQ T T1 ∧
      ((∃ g' h' w' t', t' ≤ t + 1 ∧ eE S1 T1 1 (nI f) (nI g') (nI h') (nI w') (nI t') r ∧ st1 S1 T1 p (N + 1) cnt f g' h' w') ∨ ∃ g' h' w', eE S1 T1 2 (nI f) g' h' w' (nI t) (nI N)) := by
  have K0 := K
  obtain ⟨k1, k2, k3, k4, k5, k6, k7, k8, k9, k10, k11, k12, k13, k14, k15⟩ := K
  obtain ⟨e1, e2, e3, e4, e5, e6, e7, e8, e9, e10, e11, e12, e13, e14⟩ := E
  have hp : p = 28 ∨ p = 36 := by rcases k1 with z | z <;> omega
  have kp := kplan hp
  obtain ⟨z, z01', c1, c2⟩ := happens_ag (k6 g hg) (by omega) e6 e4 hf hN (hi g hg) ha hn
  obtain ⟨S2, m1, m2, -, m4, m5, m6⟩ := highs_loop (T := T) k3 hf hN ha hn cnt 0 mFuel S (by omega) (by unfold mFuel; omega) k4 (fun j _ hj => hi j hj)
  have m1 : f_X0_followHighs p ahead now S = some ((), S2) := m1
  have q2 : cQ S S2 := ⟨fun b q1 q2 => m2 b (fun j hj => by omega), fun b j _ q1 q2 => m4 b j q1 q2, m4 7 4 (by omega) (by omega), m4 7 5 (by omega) (by omega), m5⟩
  have m7 : ∀ j, S2.1 7 j = S.1 7 j := fun j => by rw [m2 7 (fun j hj => by omega)]
  obtain ⟨ti, ti1, ti2, ti3⟩ := (k6 g hg).2.2.1
  obtain ⟨l, l1, l2⟩ := (k6 g hg).2.2.2.2.1
  have r77 : T.1 77 g = nI l := by rw [(k6 g hg).2.2.2.2.2.1]; exact l2
  have r72 : T.1 72 g = nI ti := by rw [(k6 g hg).2.2.2.1]; exact ti3
  have g6 : 0 ≤ nI g ∧ (nI g).toNatClampNeg < 6 := ix (by omega) (by omega)
  have cg : (nI g).toNatClampNeg = g := nI_clamp (by omega)
  rw [ti3, nI_ltI (by omega) (by omega)] at hh
  -- the class up to the limit
  have hC : f_X4_follow (nI N) ahead now S = (if nI l ≤ 0 then f_X4_follow_93 (nI N) (p + 2 + g) z S2 else if nI N - nI w < nI l then f_X4_follow_93 (nI N) (p + 2 + g) z S2 else mBind (f_X4_beginFirstStage (nI N) (setI S2 7 11 (nI t + (1 : Int32)))) fun r16 S17 => some ((), S17)) := by
    unfold f_X4_follow
    rw [k2, if_pos kp]
    simp only [bnd]
    rw [k4, e5, isIn_eq, mBind_of, if_pos ((below (by omega)).mpr ⟨g, hg, rfl⟩), if_neg (by decide), k2, if_pos kp, e5, if_pos g6, cg, show p + 1 + 1 + g = p + 2 + g by omega, c1, mBind_of, k2, if_pos kp, m1, mBind_of, m4 (p + 2 + g) 2 (by omega) (by omega), l2, m7, m7, e9, e11]
  have hR : f_X12_follows (nI N) T = (if nI l ≤ 0 then f_X12_follows_56 (nI N) T else if nI N = nI w + nI l then some ((), setI (setI (setI (setI T 69 29 0) 69 30 0) 69 31 (nI N)) 69 32 (nI t + (1 : Int32))) else f_X12_follows_56 (nI N) T) := by
    have d : (setI (setI (setI T 69 29 0) 69 30 0) 69 31 (nI N)).1 69 32 = nI t := by
      rw [setI_slot _ _ _ _ (by omega), setI_slot _ _ _ _ (by omega), setI_slot _ _ _ _ (by omega)]
      exact e12
    unfold f_X12_follows
    rw [e6, if_pos g6, if_pos g6, cg, r77, e10]
    simp only [bnd, d]
  -- the event counted, or not
  have hQ : N < w + l ∨ l = 0 → ∃ S1 T1, f_X4_follow_93 (nI N) (p + 2 + g) z S2 = some ((), S1) ∧ f_X12_follows_56 (nI N) T = some ((), T1) ∧ cQ S S1 ∧ rQ T T1 ∧
      ((∃ g' h' w' t', t' ≤ t + 1 ∧ eE S1 T1 1 (nI f) (nI g') (nI h') (nI w') (nI t') r ∧ st1 S1 T1 p (N + 1) cnt f g' h' w') ∨ ∃ g' h' w', eE S1 T1 2 (nI f) g' h' w' (nI t) (nI N)) := fun hlim => by
    unfold f_X4_follow_93 f_X12_follows_56
    rw [e10, if_neg (nI_ge hwN (by omega)), c2, mBind_of, m4 (p + 2 + g) 1 (by omega) (by omega), ti3]
    rcases z01' with rfl | rfl
    · rw [if_pos rfl, if_pos rfl]
      refine ⟨S2, T, rfl, rfl, q2, rQ.rfl, Or.inl ⟨g, h, w, t, by omega, ?_, by omega, hg, ?_, hh20, hfw, by omega, fun _ => by omega, ?_, fun i hi' => m6 i (by omega) hi'⟩⟩
      · unfold eE
        rw [m7, m7, m7, m7, m7, m7, m7]
        exact ⟨e1, e2, e3, e4, e5, e6, e7, e8, e9, e10, e11, e12, e13, e14⟩
      · rw [m4 (p + 2 + g) 1 (by omega) (by omega), ti3, nI_ltI (by omega) (by omega)]
        exact hh
      · rw [m4 (p + 2 + g) 2 (by omega) (by omega), l2]
        rcases hlim with q | q
        · right
          rw [nI_add, nI_leI (by omega) (by omega)]
          omega
        · left
          rw [q]
          rfl
    · rw [if_neg (show ¬ (1 : Int32) = 0 by decide), if_neg (show ¬ (1 : Int32) = 0 by decide)]
      unfold f_X4_countEvent
      simp only [bnd]
      rw [m7, e7, e8, nI_1, setI_same, setI_same, setI_slot T _ _ _ (show 29 ≠ 30 by omega), e6, if_pos g6, cg, setI_row T _ _ _ (show 72 ≠ 69 by omega), r72]
      by_cases hlast : h + 1 = ti
      · rw [if_pos (nI_le (by omega) (by omega)), if_pos (show nI (h + 1) = nI ti by rw [hlast])]
        have s8 : (setI S2 7 9 (nI (h + 1))).1 7 8 = nI g := by rw [setI_slot _ _ _ _ (by omega), m7]; exact e5
        have s2p : ∀ a b c d : Int32, (setI (setI (setI (setI S2 7 9 a) 7 8 b) 7 9 c) 7 10 d).2.2 7 2 = p := fun a b c d => by rw [setI_2, setI_2, setI_2, setI_2, m5]; exact k2
        have s2c : ∀ a b c d : Int32, (setI (setI (setI (setI S2 7 9 a) 7 8 b) 7 9 c) 7 10 d).1 p 1 = nI cnt := fun a b c d => by rw [setI_row _ _ _ _ (by omega), setI_row _ _ _ _ (by omega), setI_row _ _ _ _ (by omega), setI_row _ _ _ _ (by omega), m4 p 1 (by omega) (by omega)]; exact k4
        have s2g : ∀ a c d : Int32, (setI (setI (setI (setI S2 7 9 a) 7 8 (nI (g + 1))) 7 9 c) 7 10 d).1 7 8 = nI (g + 1) := fun a c d => by rw [setI_slot _ _ _ _ (by omega), setI_slot _ _ _ _ (by omega), setI_same]
        have t8 : ∀ a : Int32, (setI T 69 30 a).1 69 29 = nI g := fun a => by rw [setI_slot _ _ _ _ (by omega)]; exact e6
        have t2g : ∀ a c d : Int32, (setI (setI (setI (setI T 69 30 a) 69 29 (nI (g + 1))) 69 30 c) 69 31 d).1 69 29 = nI (g + 1) := fun a c d => by rw [setI_slot _ _ _ _ (by omega), setI_slot _ _ _ _ (by omega), setI_same]
        have t2c : ∀ a b c d : Int32, (setI (setI (setI (setI T 69 30 a) 69 29 b) 69 30 c) 69 31 d).1 69 4 = nI cnt := fun a b c d => by rw [setI_slot _ _ _ _ (by omega), setI_slot _ _ _ _ (by omega), setI_slot _ _ _ _ (by omega), setI_slot _ _ _ _ (by omega)]; exact k5
        rw [s8, nI_1, s2p, if_pos kp]
        simp only [s2g, s2c, nI_1, t2g, t2c]
        by_cases hend : g + 1 = cnt
        · rw [if_pos (show nI (g + 1) = nI cnt by rw [hend]), if_pos (show nI (g + 1) = nI cnt by rw [hend]), mBind_of]
          refine ⟨_, _, rfl, rfl, ((((((q2.tr (cQ.set (by omega) (by omega))).tr (cQ.set (by omega) (by omega))).tr (cQ.set (by omega) (by omega))).tr (cQ.set (by omega) (by omega))).tr (cQ.set (by omega) (by omega))).tr (cQ.set (by omega) (by omega))), (((((rQ.set (by omega)).tr (rQ.set (by omega))).tr (rQ.set (by omega))).tr (rQ.set (by omega))).tr (rQ.set (by omega))).tr (rQ.set (by omega)), Or.inr ⟨nI (g + 1), 0, nI N, ?_⟩⟩
          unfold eE
          simp [setI_1, nI_0, m7, e1, e2, e3, e4, e5, e6, e7, e8, e9, e10, e11, e12, e13, e14]
        · have hne : ¬ nI (g + 1) = nI cnt := fun q => hend ((nI_eq (by omega) (by omega)).mp q)
          rw [if_neg hne, if_neg hne, mBind_of]
          have qc := (((q2.tr (cQ.set (j := 9) (v := nI (h + 1)) (by omega) (by omega))).tr (cQ.set (j := 8) (v := nI (g + 1)) (by omega) (by omega))).tr (cQ.set (j := 9) (v := 0) (by omega) (by omega))).tr (cQ.set (j := 10) (v := nI N) (by omega) (by omega))
          refine ⟨_, _, rfl, rfl, qc, (((rQ.set (by omega)).tr (rQ.set (by omega))).tr (rQ.set (by omega))).tr (rQ.set (by omega)), Or.inl ⟨g + 1, 0, N, t, by omega, ?_, by omega, by omega, ?_, by omega, by omega, by omega, fun _ => by omega, ?_, fun i hi' => ?_⟩⟩
          · unfold eE
            simp [setI_1, nI_0, m7, e1, e2, e3, e4, e5, e6, e7, e8, e9, e10, e11, e12, e13, e14]
          · obtain ⟨tj, tj1, tj2, tj3⟩ := (k6 (g + 1) (by omega)).2.2.1
            rw [qc.2.1 _ 1 (by omega) (by omega) (by omega), tj3, nI_ltI (by omega) (by omega)]
            omega
          · obtain ⟨lj, lj1, lj2⟩ := (k6 (g + 1) (by omega)).2.2.2.2.1
            rw [qc.2.1 _ 2 (by omega) (by omega) (by omega), lj2]
            by_cases q : lj = 0
            · left
              rw [q]
              rfl
            · right
              rw [nI_add, nI_leI (by omega) (by omega)]
              omega
          · refine (m6 i (by omega) hi').frame ?_ ?_
            · rw [setI_row _ _ _ _ (by omega), setI_row _ _ _ _ (by omega), setI_row _ _ _ _ (by omega), setI_row _ _ _ _ (by omega)]
            · rw [setI_row _ _ _ _ (by omega), setI_row _ _ _ _ (by omega), setI_row _ _ _ _ (by omega), setI_row _ _ _ _ (by omega)]
      · rw [if_neg (nI_ge (by omega) (by omega)), if_neg (fun q => hlast ((nI_eq (by omega) (by omega)).mp q)), mBind_of]
        have qc := q2.tr (cQ.set (j := 9) (v := nI (h + 1)) (by omega) (by omega))
        refine ⟨_, _, rfl, rfl, qc, rQ.set (by omega), Or.inl ⟨g, h + 1, w, t, by omega, ?_, by omega, hg, ?_, by omega, hfw, by omega, fun _ => by omega, ?_, fun i hi' => ?_⟩⟩
        · unfold eE
          simp [setI_1, nI_0, m7, e1, e2, e3, e4, e5, e6, e7, e8, e9, e10, e11, e12, e13, e14]
        · rw [qc.2.1 _ 1 (by omega) (by omega) (by omega), ti3, nI_ltI (by omega) (by omega)]
          omega
        · rw [qc.2.1 _ 2 (by omega) (by omega) (by omega), l2]
          rcases hlim with q | q
          · right
            rw [nI_add, nI_leI (by omega) (by omega)]
            omega
          · left
            rw [q]
            rfl
        · refine (m6 i (by omega) hi').frame ?_ ?_
          · rw [setI_row _ _ _ _ (by omega)]
          · rw [setI_row _ _ _ _ (by omega)]
  rw [hC, hR]
  by_cases hl0 : l = 0
  · rw [if_pos (by rw [hl0]; decide), if_pos (by rw [hl0]; decide)]
    exact hQ (Or.inr hl0)
  · rw [if_neg (nI_nle (by omega) (by omega)), if_neg (nI_nle (by omega) (by omega)), nI_sub (by omega), nI_add]
    have hNl : N ≤ w + l := by
      rcases hl with q | q
      · rw [l2] at q
        exact absurd ((nI_eq (b := 0) (by omega) (by omega)).mp q) hl0
      · rw [l2, nI_add, nI_leI (by omega) (by omega)] at q
        exact q
    by_cases hlt : N < w + l
    · rw [if_pos (nI_lt (by omega) (by omega)), if_neg (fun q => by rw [nI_eq (by omega) (by omega)] at q; omega)]
      exact hQ (Or.inl hlt)
    · rw [if_neg (nI_nlt (by omega) (by omega)), if_pos (by rw [show N = w + l by omega])]
      unfold f_X4_beginFirstStage
      simp only [bnd, mBind_of, nI_1]
      have qc := ((q2.tr (cQ.set (j := 11) (v := nI (t + 1)) (by omega) (by omega))).tr (cQ.set (j := 8) (v := 0) (by omega) (by omega))).tr ((cQ.set (j := 9) (v := 0) (by omega) (by omega)).tr (cQ.set (j := 10) (v := nI N) (by omega) (by omega)))
      refine ⟨_, _, rfl, rfl, qc, (((rQ.set (by omega)).tr (rQ.set (by omega))).tr (rQ.set (by omega))).tr (rQ.set (by omega)), Or.inl ⟨0, 0, N, t + 1, by omega, ?_, by omega, by omega, ?_, by omega, by omega, by omega, fun _ => by omega, ?_, fun i hi' => ?_⟩⟩
      · unfold eE
        simp [setI_1, nI_0, m7, e1, e2, e3, e4, e5, e6, e7, e8, e9, e10, e11, e12, e13, e14]
      · obtain ⟨tj, tj1, tj2, tj3⟩ := (k6 0 (by omega)).2.2.1
        rw [qc.2.1 _ 1 (by omega) (by omega) (by omega), tj3, nI_ltI (by omega) (by omega)]
        omega
      · obtain ⟨lj, lj1, lj2⟩ := (k6 0 (by omega)).2.2.2.2.1
        rw [qc.2.1 _ 2 (by omega) (by omega) (by omega), lj2]
        by_cases q : lj = 0
        · left
          rw [q]
          rfl
        · right
          rw [nI_add, nI_leI (by omega) (by omega)]
          omega
      · refine (m6 i (by omega) hi').frame ?_ ?_
        · rw [setI_row _ _ _ _ (by omega), setI_row _ _ _ _ (by omega), setI_row _ _ _ _ (by omega), setI_row _ _ _ _ (by omega)]
        · rw [setI_row _ _ _ _ (by omega), setI_row _ _ _ _ (by omega), setI_row _ _ _ _ (by omega), setI_row _ _ _ _ (by omega)]
