/-! PURE: the instrument: armed anew, a segment kept, a sample taken -/
theorem arms_ag {S T : mM} {p M cnt B A : Nat} {s f g h w a r : Int32} (K : eK S T p M cnt B A) (E : eE S T s f g h w a r) (hc : 0 < cnt) (hM : M ≤ 33000) :
    ∃ S1 T1, f_X4_beginAnew S = some ((), S1) ∧ f_X12_arms T = some ((), T1) ∧ cQ S S1 ∧ rQ T T1 ∧ eE S1 T1 1 (nI M) (nI 0) (nI 0) (nI M) (nI 0) r ∧ st1 S1 T1 p M cnt M 0 0 M := by
  obtain ⟨k1, k2, k3, k4, k5, k6, k7, k8, k9, k10, k11, k12, k13, k14, k15⟩ := K
  obtain ⟨e1, e2, e3, e4, e5, e6, e7, e8, e9, e10, e11, e12, e13, e14⟩ := E
  have hp : p = 28 ∨ p = 36 := by rcases k1 with z | z <;> omega
  have kp := kplan hp
  have q3 : cQ S (setI (setI (setI S 7 6 1) 7 7 (nI M)) 7 11 0) := ((cQ.set (by omega) (by omega)).tr (cQ.set (by omega) (by omega))).tr (cQ.set (by omega) (by omega))
  obtain ⟨S2, m1, m2, -, m4, m5, m6⟩ := forget_loop (p := p) k3 cnt 0 mFuel (setI (setI (setI S 7 6 1) 7 7 (nI M)) 7 11 0) (by omega) (by unfold mFuel; omega) (by rw [q3.2.1 p 1 (by omega) (by omega) (by omega)]; exact k4)
  have m1 : f_X0_forgetHighs p (setI (setI (setI S 7 6 1) 7 7 (nI M)) 7 11 0) = some ((), S2) := m1
  have qc2 : cQ S S2 := q3.tr ⟨fun b q1 q2 => m2 b (fun j hj => by omega), fun b j _ q1 q2 => m4 b j q1, m4 7 4 (by omega), m4 7 5 (by omega), m5⟩
  have qc := ((qc2.tr (cQ.set (j := 8) (v := 0) (by omega) (by omega))).tr (cQ.set (j := 9) (v := 0) (by omega) (by omega))).tr (cQ.set (j := 10) (v := nI M) (by omega) (by omega))
  have m7 : ∀ j, S2.1 7 j = (setI (setI (setI S 7 6 1) 7 7 (nI M)) 7 11 0).1 7 j := fun j => by rw [m2 7 (fun j hj => by omega)]
  refine ⟨setI (setI (setI S2 7 8 0) 7 9 0) 7 10 (nI M), setI (setI (setI (setI (setI (setI T 69 25 1) 69 28 (nI M)) 69 29 0) 69 30 0) 69 31 (nI M)) 69 32 0, ?_, ?_, qc, (((((rQ.set (by omega)).tr (rQ.set (by omega))).tr (rQ.set (by omega))).tr (rQ.set (by omega))).tr (rQ.set (by omega))).tr (rQ.set (by omega)), ?_, ?_⟩
  · unfold f_X4_beginAnew f_X4_beginFirstStage
    simp only [bnd]
    rw [setI_row _ _ _ _ (show 8 ≠ 7 by omega), k7, show (setI (setI (setI S 7 6 (1 : Int32)) 7 7 (nI M)) 7 11 (0 : Int32)).2.2 7 2 = p from k2, if_pos kp, m1, mBind_of, m2 8 (fun j hj => by omega), setI_row _ _ _ _ (show 8 ≠ 7 by omega), setI_row _ _ _ _ (show 8 ≠ 7 by omega), setI_row _ _ _ _ (show 8 ≠ 7 by omega), k7, mBind_of]
  · unfold f_X12_arms
    simp only [bnd]
    have t1 : (setI T 69 25 (1 : Int32)).1 69 3 = nI M := by rw [setI_slot _ _ _ _ (by omega)]; exact k8
    have t2 : (setI (setI (setI (setI T 69 25 (1 : Int32)) 69 28 (nI M)) 69 29 (0 : Int32)) 69 30 (0 : Int32)).1 69 3 = nI M := by rw [setI_slot _ _ _ _ (by omega), setI_slot _ _ _ _ (by omega), setI_slot _ _ _ _ (by omega)]; exact t1
    rw [t1, t2]
  · unfold eE
    simp [setI_1, nI_0, m7, e1, e2, e3, e4, e5, e6, e7, e8, e9, e10, e11, e12, e13, e14]
  · refine ⟨by omega, hc, ?_, by omega, by omega, by omega, fun z => absurd z (by omega), ?_, fun i hi => ?_⟩
    · obtain ⟨tj, tj1, tj2, tj3⟩ := (k6 0 hc).2.2.1
      rw [qc.2.1 _ 1 (by omega) (by omega) (by omega), tj3, nI_ltI (by omega) (by omega)]
      omega
    · obtain ⟨lj, lj1, lj2⟩ := (k6 0 hc).2.2.2.2.1
      rw [qc.2.1 _ 2 (by omega) (by omega) (by omega), lj2]
      right
      rw [nI_add, nI_leI (by omega) (by omega)]
      omega
    · have z : ∀ (v : Nat → Int32) (x : Int32), hiN v x M M = 0 := fun v x => hiN_0 (by omega)
      refine ⟨?_, fun q => ?_, fun q => ?_⟩
      · rw [z, setI_row _ _ _ _ (by omega), setI_row _ _ _ _ (by omega), setI_row _ _ _ _ (by omega), m6 i (by omega) hi]
        rfl
      · rw [z] at q
        exact absurd q (by omega)
      · rw [z] at q
        exact absurd q (by omega)
/-- the segments kept, in two memories -/
def sG (S T : mM) (c : Nat) : Prop := c ≤ 8 ∧ S.1 10 1 = nI c ∧ T.1 69 34 = nI c ∧
  ∀ k, k < c → S.1 (12 + 2 * k) 1 = T.1 84 k ∧ S.1 (12 + 2 * k) 2 = T.1 85 k ∧ S.1 (12 + 2 * k) 3 = T.1 86 k ∧
    ∃ n, 1 ≤ n ∧ n ≤ 201 ∧ T.1 85 k = nI n ∧ ∀ i, i < n → S.1 (13 + 2 * k) i = T.1 87 (201 * k + i)
theorem sG.fr {S S' T T' : mM} {c : Nat} (h : sG S T c) (hs : ∀ b, b = 10 ∨ (12 ≤ b ∧ b ≤ 27) → S'.1 b = S.1 b) (h69 : T'.1 69 34 = T.1 69 34) (ht : ∀ b, 84 ≤ b → b ≤ 87 → T'.1 b = T.1 b) : sG S' T' c := by
  obtain ⟨h1, h2, h3, h4⟩ := h
  refine ⟨h1, by rw [hs 10 (by omega)]; exact h2, by rw [h69]; exact h3, fun k hk => ?_⟩
  rw [hs (12 + 2 * k) (by omega), hs (13 + 2 * k) (by omega), ht 84 (by omega) (by omega), ht 85 (by omega) (by omega), ht 86 (by omega) (by omega), ht 87 (by omega) (by omega)]
  exact h4 k hk
theorem sG.q {S S' T T' : mM} {c : Nat} (h : sG S T c) (q : cQ S S') (r : rQ T T') : sG S' T' c :=
  h.fr (fun b hb => q.1 b (by omega) (by omega)) (r.2.1 34 (by omega) (by omega)) (fun b q1 q2 => r.1 b (by omega))
theorem seg_copy {c F L : Nat} (hc : c < 8) (hL : L ≤ 201) (hF : F + L < 2 ^ 30) : ∀ (m i fu : Nat) (S : mM), i + m = L → m < fu → S.1 (12 + 2 * c) 2 = nI L →
    ∃ S', f_X5_copyOf_29 fu (12 + 2 * c) (nI F) (nI i) S = some ((), S') ∧ (∀ b, b ≠ 13 + 2 * c → S'.1 b = S.1 b) ∧ (∀ j, S'.1 (13 + 2 * c) j = if i ≤ j ∧ j < L then S.1 9 ((F + j) % 256) else S.1 (13 + 2 * c) j) ∧ S'.2 = S.2
  | 0, i, fu + 1, S, hm, _, h => by
    refine ⟨S, ?_, fun _ _ => rfl, fun j => by rw [if_neg (by omega)], rfl⟩
    unfold f_X5_copyOf_29
    rw [h, if_pos (nI_le (by omega) (by omega))]
  | m + 1, i, fu + 1, S, hm, hf, h => by
    have e1 : 12 + 2 * c + 1 = 13 + 2 * c := by omega
    obtain ⟨S', k1, k2, k3, k4⟩ := seg_copy (F := F) hc hL hF m (i + 1) fu (setI S (13 + 2 * c) i (S.1 9 ((F + i) % 256))) (by omega) (by omega) (by rw [setI_row _ _ _ _ (by omega)]; exact h)
    refine ⟨S', ?_, fun b hb => by rw [k2 b hb, setI_row _ _ _ _ hb], fun j => ?_, by rw [k4, setI_2]⟩
    · unfold f_X5_copyOf_29
      rw [h, if_neg (nI_ge (by omega) (by omega)), nI_add, ring_get (by omega), mBind_of, if_pos (ix (show i < 201 by omega) (by omega)), nI_clamp (by omega)]
      simp only [bnd, e1, nI_1]
      exact k1
    · rw [k3 j, setI_row _ _ _ _ (show 9 ≠ 13 + 2 * c by omega), setI_1]
      by_cases e : j = i
      · subst e
        rw [if_neg (by omega), if_pos ⟨rfl, rfl⟩, if_pos (by omega)]
      · rw [if_neg (show ¬ (13 + 2 * c = 13 + 2 * c ∧ j = i) from fun q => e q.2)]
        by_cases q : i ≤ j ∧ j < L
        · rw [if_pos (by omega), if_pos q]
        · rw [if_neg (by omega), if_neg q]
def keptEnd (T : mM) : Option (Unit × mM) := if (setI T 69 34 ((T.1 69 34) + (1 : Int32))).1 69 34 = (8 : Int32) then some ((), setI (setI T 69 34 ((T.1 69 34) + (1 : Int32))) 69 25 (3 : Int32)) else mBind (f_X12_arms (setI T 69 34 ((T.1 69 34) + (1 : Int32)))) fun _ S4 => some ((), S4)
theorem ref_seg {c F L : Nat} (hc : c < 8) (hL : L ≤ 201) (hF : F + L ≤ 33000) : ∀ (m i fu : Nat) (T : mM), i + m = L → m < fu → T.1 85 c = nI L →
    ∃ T', f_X12_kept_88 fu (nI c) (nI F) (nI i) T = keptEnd T' ∧ (∀ b, b ≠ 87 → T'.1 b = T.1 b) ∧ (∀ j, T'.1 87 j = if 201 * c + i ≤ j ∧ j < 201 * c + L then T.1 71 (F + (j - 201 * c)) else T.1 87 j) ∧ T'.2 = T.2
  | 0, i, fu + 1, T, hm, _, h => by
    refine ⟨T, ?_, fun _ _ => rfl, fun j => by rw [if_neg (by omega)], rfl⟩
    unfold f_X12_kept_88
    rw [if_pos (ix hc (by omega)), nI_clamp (by omega), h, if_pos (nI_le (by omega) (by omega))]
    rfl
  | m + 1, i, fu + 1, T, hm, hf, h => by
    obtain ⟨T', k1, k2, k3, k4⟩ := ref_seg (F := F) hc hL hF m (i + 1) fu (setI T 87 (201 * c + i) (T.1 71 (F + i))) (by omega) (by omega) (by rw [setI_row _ _ _ _ (by omega)]; exact h)
    refine ⟨T', ?_, fun b hb => by rw [k2 b hb, setI_row _ _ _ _ hb], fun j => ?_, by rw [k4, setI_2]⟩
    · unfold f_X12_kept_88
      rw [if_pos (ix hc (by omega)), nI_clamp (by omega), h, if_neg (nI_ge (by omega) (by omega)), nI_add, if_pos (ix (show F + i < 33000 by omega) (by omega)), rowAt, if_pos (ix (show 201 * c + i < 1608 by omega) (by omega)), nI_clamp (by omega), nI_clamp (by omega)]
      simp only [bnd, nI_1]
      exact k1
    · rw [k3 j, setI_row _ _ _ _ (show 71 ≠ 87 by omega), setI_1]
      by_cases e : j = 201 * c + i
      · subst e
        rw [if_neg (by omega), if_pos ⟨rfl, rfl⟩, if_pos (by omega), Nat.add_sub_cancel_left]
      · rw [if_neg (show ¬ (87 = 87 ∧ j = 201 * c + i) from fun q => e q.2)]
        by_cases q : 201 * c + i ≤ j ∧ j < 201 * c + L
        · rw [if_pos (by omega), if_pos q]
        · rw [if_neg (by omega), if_neg q]
theorem sub_int {a b : Nat} (ha : a < 2 ^ 30) (hb : b < 2 ^ 30) : (nI a - nI b).toInt = (a : Int) - b := by
  rw [Int32.toInt_sub, nI_toInt (by omega), nI_toInt (by omega), Int.bmod_eq_of_le (by omega) (by omega)]
theorem sub_max {a b M : Nat} (ha : a < 2 ^ 30) (hb : b < 2 ^ 30) (hM : M < 2 ^ 30) : (if nI a - nI b < nI M then nI M else nI a - nI b) = nI (max (a - b) M) := by
  by_cases h : nI a - nI b < nI M
  · rw [if_pos h]
    rw [Int32.lt_iff_toInt_lt, sub_int ha hb, nI_toInt (by omega)] at h
    rw [show max (a - b) M = M by omega]
  · rw [if_neg h]
    rw [Int32.lt_iff_toInt_lt, sub_int ha hb, nI_toInt (by omega)] at h
    rw [nI_sub (by omega), show max (a - b) M = a - b by omega]
theorem sub_max' {a b M : Nat} (ha : a < 2 ^ 30) (hb : b < 2 ^ 30) (hM : M < 2 ^ 30) : (if nI M ≤ nI a - nI b then nI a - nI b else nI M) = nI (max (a - b) M) := by
  rw [← sub_max ha hb hM]
  by_cases h : nI a - nI b < nI M
  · rw [if_pos h, if_neg (Int32.not_le.mpr h)]
  · rw [if_neg h, if_pos (Int32.not_lt.mp h)]
def cI (S S1 : mM) : Prop := (∀ b, b < 7 ∨ 44 ≤ b → S1.1 b = S.1 b) ∧ S1.2 = S.2
def rI (T T1 : mM) : Prop := (∀ b, b ≠ 69 → b ≠ 71 → ¬ (84 ≤ b ∧ b ≤ 87) → T1.1 b = T.1 b) ∧ (∀ j, j ≠ 3 → j ≠ 25 → ¬ (28 ≤ j ∧ j ≤ 34) → T1.1 69 j = T.1 69 j) ∧ T1.2 = T.2
theorem cI.rfl {S : mM} : cI S S := ⟨fun _ _ => Eq.refl _, Eq.refl _⟩
theorem rI.rfl {S : mM} : rI S S := ⟨fun _ _ _ _ => Eq.refl _, fun _ _ _ _ => Eq.refl _, Eq.refl _⟩
theorem cI.tr {S S1 S2 : mM} (h : cI S S1) (k : cI S1 S2) : cI S S2 := ⟨fun b q => (k.1 b q).trans (h.1 b q), k.2.trans h.2⟩
theorem rI.tr {S S1 S2 : mM} (h : rI S S1) (k : rI S1 S2) : rI S S2 := ⟨fun b q1 q2 q3 => (k.1 b q1 q2 q3).trans (h.1 b q1 q2 q3), fun j q1 q2 q3 => (k.2.1 j q1 q2 q3).trans (h.2.1 j q1 q2 q3), k.2.2.trans h.2.2⟩
theorem cQ.i {S S1 : mM} (h : cQ S S1) : cI S S1 := ⟨fun b q => h.1 b (by omega) (by omega), h.2.2.2.2⟩
theorem rQ.i {S S1 : mM} (h : rQ S S1) : rI S S1 := ⟨fun b q1 _ _ => h.1 b q1, fun j q1 q2 q3 => h.2.1 j q2 (by omega), h.2.2⟩
theorem keep_ag {S T : mM} {p N cnt B A c f r : Nat} {g h w a : Int32} (K : eK S T p (N + 1) cnt B A) (E : eE S T 2 (nI f) g h w a (nI r)) (hc : 0 < cnt) (hfr : f ≤ r) (hrN : N = r + A) (hN : N < 33000) (G : sG S T c) (hc7 : c ≤ 7) :
    ∃ S1 T1, f_X4_keepSegment (nI N) S = some ((), S1) ∧ f_X12_kept T = some ((), T1) ∧ eK S1 T1 p (N + 1) cnt B A ∧ cI S S1 ∧ rI T T1 ∧ sG S1 T1 (c + 1) ∧
      ((c + 1 ≤ 7 ∧ eE S1 T1 1 (nI (N + 1)) (nI 0) (nI 0) (nI (N + 1)) (nI 0) (nI r) ∧ st1 S1 T1 p (N + 1) cnt (N + 1) 0 0 (N + 1)) ∨ eE S1 T1 3 (nI f) g h w a (nI r)) := by
  have K0 := K
  have E0 := E
  have G0 := G
  obtain ⟨k1, k2, k3, k4, k5, k6, k7, k8, k9, k10, k11, k12, k13, k14, k15⟩ := K
  obtain ⟨e1, e2, e3, e4, e5, e6, e7, e8, e9, e10, e11, e12, e13, e14⟩ := E
  obtain ⟨g1, g2', g3, g4⟩ := G
  obtain ⟨F, hF⟩ : ∃ F, F = max (r - B) (max f (N + 1 - 256)) := ⟨_, rfl⟩
  have hFN : F ≤ N := by omega
  obtain ⟨L, hLd⟩ : ∃ L, L = N + 1 - F := ⟨_, rfl⟩
  have hL1 : 1 ≤ L := by omega
  have hL : L ≤ 201 := by omega
  have hp : p = 28 ∨ p = 36 := by rcases k1 with z | z <;> omega
  -- the class: the segment
  generalize hSa : setI (setI (setI S (12 + 2 * c) 1 (nI F)) (12 + 2 * c) 2 (nI L)) (12 + 2 * c) 3 (nI r) = Sa
  have a1 : ∀ b, b ≠ 12 + 2 * c → Sa.1 b = S.1 b := fun b hb => by rw [← hSa, setI_row _ _ _ _ hb, setI_row _ _ _ _ hb, setI_row _ _ _ _ hb]
  have a2 : Sa.1 (12 + 2 * c) 1 = nI F := by rw [← hSa, setI_slot _ _ _ _ (by omega), setI_slot _ _ _ _ (by omega), setI_same]
  have a3 : Sa.1 (12 + 2 * c) 2 = nI L := by rw [← hSa, setI_slot _ _ _ _ (by omega), setI_same]
  have a4 : Sa.1 (12 + 2 * c) 3 = nI r := by rw [← hSa, setI_same]
  have a5 : Sa.2 = S.2 := by rw [← hSa]; rfl
  obtain ⟨Sb, b1, b2, b3, b4⟩ := seg_copy (c := c) (F := F) (L := L) (by omega) hL (by omega) L 0 mFuel Sa (by omega) (by unfold mFuel; omega) a3
  have b1 : f_X5_copyOf_29 mFuel (12 + 2 * c) (nI F) 0 Sa = some ((), Sb) := b1
  have hcopy : f_X5_copyOf (12 + 2 * c) (nI F) (nI N) (nI r) S = some ((), Sb) := by
    unfold f_X5_copyOf f_J9_min_7cf53
    simp only [bnd]
    rw [nI_sub hFN, nI_1, show N - F + 1 = L by omega, if_neg (show ¬ (201 : Int32) < nI L from nI_nlt (b := L) (a := 201) (by omega) (by omega)), mBind_of, hSa]
    exact b1
  have sb10 : Sb.1 10 1 = nI c := by rw [b2 10 (by omega), a1 10 (by omega)]; exact g2'
  have hSb : ∀ b, b ≠ 12 + 2 * c → b ≠ 13 + 2 * c → Sb.1 b = S.1 b := fun b q1 q2 => by rw [b2 b q2, a1 b q1]
  -- the reference: the segment
  generalize hTa : setI (setI (setI T 84 c (nI F)) 85 c (nI L)) 86 c (nI r) = Ta
  have t1 : ∀ b, b ≠ 84 → b ≠ 85 → b ≠ 86 → Ta.1 b = T.1 b := fun b q1 q2 q3 => by rw [← hTa, setI_row _ _ _ _ q3, setI_row _ _ _ _ q2, setI_row _ _ _ _ q1]
  have t84 : ∀ j, Ta.1 84 j = if j = c then nI F else T.1 84 j := fun j => by rw [← hTa, setI_row _ _ _ _ (by omega), setI_row _ _ _ _ (by omega), setI_1]; simp only [true_and]
  have t85 : ∀ j, Ta.1 85 j = if j = c then nI L else T.1 85 j := fun j => by rw [← hTa, setI_row _ _ _ _ (by omega), setI_1, setI_row _ _ _ _ (by omega)]; simp only [true_and]
  have t86 : ∀ j, Ta.1 86 j = if j = c then nI r else T.1 86 j := fun j => by rw [← hTa, setI_1, setI_row _ _ _ _ (by omega), setI_row _ _ _ _ (by omega)]; simp only [true_and]
  have t2 : Ta.2 = T.2 := by rw [← hTa]; rfl
  obtain ⟨Tb, c1, c2, c3, c4⟩ := ref_seg (c := c) (F := F) (L := L) (by omega) hL (by omega) L 0 mFuel Ta (by omega) (by unfold mFuel; omega) (by rw [t85, if_pos rfl])
  have c1 : f_X12_kept_88 mFuel (nI c) (nI F) 0 Ta = keptEnd Tb := c1
  have hkept : f_X12_kept T = keptEnd Tb := by
    unfold f_X12_kept
    simp only [bnd]
    rw [g3, e14, k12, e4]
    have h31 : ∀ z : Nat, z < 2 ^ 30 → f_X12_kept_31 (nI c) (nI z) T = f_X12_kept_56 (nI c) (nI (max (N + 1 - 256) z)) T := fun z hz => by
      unfold f_X12_kept_31
      rw [k8, ← sub_max (b := 256) (show N + 1 < 2 ^ 30 by omega) (by omega) hz]
      by_cases q : nI (N + 1) - nI 256 < nI z
      · rw [if_pos q, if_pos (show nI (N + 1) - (256 : Int32) ≤ nI z from Int32.le_of_lt q)]
      · rw [if_neg q]
        by_cases q' : nI (N + 1) - (256 : Int32) ≤ nI z
        · rw [if_pos q']
          have : nI z = nI (N + 1) - nI 256 := Int32.le_antisymm (Int32.not_lt.mp q) q'
          rw [this]
        · rw [if_neg q']
          rfl
    have hif : (if nI f ≤ nI r - nI B then f_X12_kept_31 (nI c) (nI r - nI B) T else f_X12_kept_31 (nI c) (nI f) T) = f_X12_kept_31 (nI c) (if nI f ≤ nI r - nI B then nI r - nI B else nI f) T := by
      by_cases q : nI f ≤ nI r - nI B
      · rw [if_pos q, if_pos q]
      · rw [if_neg q, if_neg q]
    rw [hif, sub_max' (by omega) (by omega) (by omega), h31 _ (by omega), show max (N + 1 - 256) (max (r - B) f) = F by omega]
    unfold f_X12_kept_56
    rw [if_pos (ix (show c < 8 by omega) (by omega)), nI_clamp (by omega)]
    simp only [bnd, if_pos (ixc (show c < 8 by omega) (by omega))]
    rw [setI_row _ _ _ _ (show 69 ≠ 84 by omega), setI_row _ _ _ _ (show 69 ≠ 85 by omega), setI_row _ _ _ _ (show 69 ≠ 84 by omega), k8, e14, nI_sub (by omega), show N + 1 - F = L by omega, hTa]
    exact c1
  have tb34 : Tb.1 69 34 = nI c := by rw [c2 69 (by omega), t1 69 (by omega) (by omega) (by omega)]; exact g3
  have hTb : ∀ b, b ≠ 84 → b ≠ 85 → b ≠ 86 → b ≠ 87 → Tb.1 b = T.1 b := fun b q1 q2 q3 q4 => by rw [c2 b q4, t1 b q1 q2 q3]
  -- behind the counts
  generalize hSc : setI Sb 10 1 (nI (c + 1)) = Sc
  have sc : ∀ b, b ≠ 10 → b ≠ 12 + 2 * c → b ≠ 13 + 2 * c → Sc.1 b = S.1 b := fun b q0 q1 q2 => by rw [← hSc, setI_row _ _ _ _ q0, hSb b q1 q2]
  have sc2 : Sc.2 = S.2 := by rw [← hSc, setI_2, b4, a5]
  have sc10 : Sc.1 10 1 = nI (c + 1) := by rw [← hSc, setI_same]
  generalize hTc : setI Tb 69 34 (nI (c + 1)) = Tc
  have tc : ∀ b, b ≠ 69 → b ≠ 84 → b ≠ 85 → b ≠ 86 → b ≠ 87 → Tc.1 b = T.1 b := fun b q0 q1 q2 q3 q4 => by rw [← hTc, setI_row _ _ _ _ q0, hTb b q1 q2 q3 q4]
  have tc69 : ∀ j, j ≠ 34 → Tc.1 69 j = T.1 69 j := fun j hj => by rw [← hTc, setI_slot _ _ _ _ hj, hTb 69 (by omega) (by omega) (by omega) (by omega)]
  have tc34 : Tc.1 69 34 = nI (c + 1) := by rw [← hTc, setI_same]
  have tc2 : Tc.2 = T.2 := by rw [← hTc, setI_2, c4, t2]
  have hr256 : ∀ k, k < N + 1 → N + 1 ≤ k + 256 → Sa.1 9 (k % 256) = T.1 71 k := fun k q1 q2 => by rw [a1 9 (by omega)]; exact k9 k q1 q2
  have Gc : sG Sc Tc (c + 1) := by
    refine ⟨by omega, sc10, tc34, fun k hk => ?_⟩
    by_cases e : k = c
    · subst e
      have u1 : Sc.1 (12 + 2 * k) = Sa.1 (12 + 2 * k) := by rw [← hSc, setI_row _ _ _ _ (by omega), b2 _ (by omega)]
      have u2 : ∀ j, j < L → Sc.1 (13 + 2 * k) j = T.1 71 (F + j) := fun j hj => by
        rw [← hSc, setI_row _ _ _ _ (by omega), b3, if_pos (by omega)]
        exact hr256 (F + j) (by omega) (by omega)
      have v1 : ∀ b, b = 84 ∨ b = 85 ∨ b = 86 → Tc.1 b = Ta.1 b := fun b hb => by rw [← hTc, setI_row _ _ _ _ (by omega), c2 b (by omega)]
      rw [u1, v1 84 (by omega), v1 85 (by omega), v1 86 (by omega), a2, a3, a4, t84, t85, t86, if_pos rfl, if_pos rfl, if_pos rfl]
      refine ⟨rfl, rfl, rfl, L, hL1, hL, rfl, fun i hi => ?_⟩
      rw [u2 i hi, ← hTc, setI_row _ _ _ _ (by omega), c3, if_pos (by omega), t1 71 (by omega) (by omega) (by omega), Nat.add_sub_cancel_left]
    · have u1 : Sc.1 (12 + 2 * k) = S.1 (12 + 2 * k) := sc _ (by omega) (by omega) (by omega)
      have u2 : Sc.1 (13 + 2 * k) = S.1 (13 + 2 * k) := sc _ (by omega) (by omega) (by omega)
      have v1 : Tc.1 84 k = T.1 84 k := by rw [← hTc, setI_row _ _ _ _ (by omega), c2 _ (by omega), t84, if_neg e]
      have v2 : Tc.1 85 k = T.1 85 k := by rw [← hTc, setI_row _ _ _ _ (by omega), c2 _ (by omega), t85, if_neg e]
      have v3 : Tc.1 86 k = T.1 86 k := by rw [← hTc, setI_row _ _ _ _ (by omega), c2 _ (by omega), t86, if_neg e]
      obtain ⟨y1, y2, y3, n, n1, n2, n3, n4⟩ := g4 k (by omega)
      rw [u1, u2, v1, v2, v3]
      refine ⟨y1, y2, y3, n, n1, n2, n3, fun i hi => ?_⟩
      rw [n4 i hi, ← hTc, setI_row _ _ _ _ (by omega), c3, if_neg (by omega), t1 87 (by omega) (by omega) (by omega)]
  have Kc : eK Sc Tc p (N + 1) cnt B A := K0.fr sc2 (sc 8 (by omega) (by omega) (by omega)) (sc 9 (by omega) (by omega) (by omega)) (by rw [sc 7 (by omega) (by omega) (by omega)]) (by rw [sc 7 (by omega) (by omega) (by omega)]) (fun b q1 q2 j _ _ => by rw [sc b (by omega) (by omega) (by omega)]) (fun j hj => tc69 j (by omega)) (fun b q1 q2 => tc b (by omega) (by omega) (by omega) (by omega) (by omega))
  have Ec : eE Sc Tc 2 (nI f) g h w a (nI r) := by
    unfold eE
    rw [sc 7 (by omega) (by omega) (by omega), tc69 25 (by omega), tc69 28 (by omega), tc69 29 (by omega), tc69 30 (by omega), tc69 31 (by omega), tc69 32 (by omega), tc69 33 (by omega)]
    exact E0
  have cIc : cI S Sc := ⟨fun b q => sc b (by omega) (by omega) (by omega), sc2⟩
  have rIc : rI T Tc := ⟨fun b q1 q2 q3 => tc b q1 (by omega) (by omega) (by omega) (by omega), fun j q1 q2 q3 => tc69 j (by omega), tc2⟩
  -- the class's head
  have hhead : f_X4_keepSegment (nI N) S = (if nI (c + 1) < (8 : Int32) then mBind (f_X4_beginAnew Sc) fun _ S12 => some ((), S12) else some ((), setI Sc 7 6 (3 : Int32))) := by
    unfold f_X4_keepSegment
    rw [oldest_eq (by omega) k7, mBind_of, e3, e13, k11]
    unfold f_J9_max_7cf53
    have m1 : (if nI f < nI (N + 1 - 256) then some (nI (N + 1 - 256), S) else some (nI f, S)) = some (nI (max f (N + 1 - 256)), S) := by
      by_cases q : f < N + 1 - 256
      · rw [if_pos (nI_lt q (by omega)), show max f (N + 1 - 256) = N + 1 - 256 by omega]
      · rw [if_neg (nI_nlt (by omega) (by omega)), show max f (N + 1 - 256) = f by omega]
    have m2 : (if nI r - nI B < nI (max f (N + 1 - 256)) then some (nI (max f (N + 1 - 256)), S) else some (nI r - nI B, S)) = some (nI F, S) := by
      have z := sub_max (a := r) (b := B) (M := max f (N + 1 - 256)) (by omega) (by omega) (by omega)
      rw [← hF] at z
      by_cases q : nI r - nI B < nI (max f (N + 1 - 256))
      · rw [if_pos q] at z ⊢
        rw [z]
      · rw [if_neg q] at z ⊢
        rw [z]
    rw [m1, mBind_of, m2, mBind_of, e13]
    unfold f_X8_add f_X8_isFull
    rw [g2', if_pos (show nI c < (8 : Int32) from nI_lt (b := 8) (by omega) (by omega)), mBind_of, if_pos rfl, g2', if_pos (ix (show c < 8 by omega) (by omega)), nI_clamp (by omega), show 11 + 1 + 2 * c = 12 + 2 * c by omega]
    simp only [bnd]
    rw [hcopy, mBind_of, sb10, nI_1, hSc, mBind_of, sc10]
    by_cases q : nI (c + 1) < (8 : Int32)
    · rw [if_pos q, if_pos q, mBind_of, if_pos rfl]
    · rw [if_neg q, if_neg q, mBind_of, if_neg (by decide)]
  have htail : keptEnd Tb = (if nI (c + 1) = (8 : Int32) then some ((), setI Tc 69 25 (3 : Int32)) else mBind (f_X12_arms Tc) fun _ S4 => some ((), S4)) := by
    unfold keptEnd
    rw [tb34, nI_1, hTc, tc34]
  rw [hhead, hkept, htail]
  by_cases q : c = 7
  · subst q
    rw [if_neg (show ¬ nI (7 + 1) < (8 : Int32) by decide), if_pos (show nI (7 + 1) = (8 : Int32) from rfl)]
    have qc : cQ Sc (setI Sc 7 6 3) := cQ.set (by omega) (by omega)
    have rc : rQ Tc (setI Tc 69 25 3) := rQ.set (by omega)
    refine ⟨_, _, rfl, rfl, Kc.q qc rc, cIc.tr qc.i, rIc.tr rc.i, Gc.q qc rc, Or.inr ?_⟩
    obtain ⟨d1, d2, d3, d4, d5, d6, d7, d8, d9, d10, d11, d12, d13, d14⟩ := Ec
    unfold eE
    simp [setI_1, d1, d2, d3, d4, d5, d6, d7, d8, d9, d10, d11, d12, d13, d14]
  · rw [if_pos (show nI (c + 1) < (8 : Int32) from nI_lt (b := 8) (by omega) (by omega)), if_neg (fun z => by rw [show (8 : Int32) = nI 8 from rfl, nI_eq (by omega) (by omega)] at z; omega)]
    obtain ⟨S1, T1, x1, x2, x3, x4, x5, x6⟩ := arms_ag Kc Ec hc (by omega)
    rw [x1, x2, mBind_of, mBind_of]
    exact ⟨S1, T1, rfl, rfl, Kc.q x3 x4, cIc.tr x3.i, rIc.tr x4.i, Gc.q x3 x4, Or.inl ⟨by omega, x5, x6⟩⟩
