/-! PURE: trigger: operands, limits, a stage behind its times -/
theorem r97 {T : mM} {j : Nat} {ev z : Int32} (hj : j < 6) : f_X12_readEvent_97 (nI j) ev z (nI j) T = thirdR j ev (setI (setI T 81 j z) 82 j 0) := by
  unfold f_X12_readEvent_97 thirdR
  rw [if_pos (ix hj (by omega)), nI_clamp (by omega)]
  simp only [bnd, if_pos (ixc hj (by omega))]
theorem ix97_dead {T : mM} {e q j : Nat} {ev z : Int32} (h : Dd T e q) (h1 : 1 ≤ e) (h5 : e ≤ 5) (hj : j < 6) : ∃ T', f_X12_readEvent_97 (nI j) ev z (nI j) T = some ((), T') ∧ rS j T T' ∧ Dd T' e q := by
  rw [r97 hj]
  obtain ⟨T', k1, k2, k3⟩ := third_dead (T := setI (setI T 81 j z) 82 j 0) (ev := ev) ((h.row (by omega)).row (by omega)) h1 h5 hj
  exact ⟨T', k1, ((rS.set (by omega) (by omega)).tr (rS.set (by omega) (by omega))).tr k2, k3⟩
theorem second_ag {S T : mM} {B : Nat → Int32} {n K k t j ev : Nat} {lo hi : Int32} (hlo : -1000 < lo) (h : CE S B n K) (hA : At S T B n K k) (ht : 28 ≤ t) (hj : j < 6) (hev : ev ≤ 7) (h0 : S.1 t 0 = nI ev) :
    (∃ S' T' k' v, (mBind (f_X1_takeNumber lo hi (-1000) S) fun r S5 => f_X1_readOperands_54 t r S5) = some (1, S') ∧ (mBind (f_X12_taken lo hi T) fun r S9 => f_X12_readEvent_97 (nI j) (nI ev) r (nI j) S9) = some ((), T') ∧ cS t S S' ∧ rS j T T' ∧ At S' T' B n K k' ∧ lo ≤ v ∧ v ≤ hi ∧ S'.1 t 4 = v ∧ S'.1 t 5 = v ∧ T'.1 81 j = v ∧ (∀ i, i < 4 → S'.1 t i = S.1 t i) ∧ (∀ b, b ≠ 69 → b ≠ 81 → b ≠ 82 → T'.1 b = T.1 b) ∧
      (ev = 2 ∨ ev = 3 → (∃ v, 1 ≤ v ∧ v ≤ 200 ∧ S'.1 t 7 = nI v) ∧ T'.1 82 j = S'.1 t 7) ∧ (ev = 4 ∨ ev = 5 ∨ ev = 6 → T'.1 82 j = S'.1 t 6)) ∨
    (∃ S' T' e q, (mBind (f_X1_takeNumber lo hi (-1000) S) fun r S5 => f_X1_readOperands_54 t r S5) = some (0, S') ∧ (mBind (f_X12_taken lo hi T) fun r S9 => f_X12_readEvent_97 (nI j) (nI ev) r (nI j) S9) = some ((), T') ∧ 1 ≤ e ∧ e ≤ 5 ∧ cFl S' e q ∧ Dd T' e q ∧ cS t S S' ∧ rS j T T') := by
  rcases tn_ag (lo := lo) (hi := hi) (ab := -1000) h hA (hab1000 hlo) with ⟨S1, T1, v, c1, c2, c3, c4, c5, c6', c7, c8, -, -⟩ | ⟨S1, T1, x, e, q, c1, c2, c3, c4, c5, c6', c7, c8⟩
  · rw [c1, mBind_of, c2, mBind_of, r97 hj]
    unfold f_X1_readOperands_54
    simp only [bnd]
    rw [c5, setI_row S1 _ _ _ (show 6 ≠ t by omega), c5, if_neg (by decide)]
    have ce : CE (setI (setI S1 t 4 v) t 5 v) B n K := (cS.tr cS.set cS.set).ce ht (c6'.ce h)
    have at1 : At (setI (setI S1 t 4 v) t 5 v) (setI (setI T1 81 j v) 82 j 0) B n K (k + 1) := (c8.row (by omega) (by omega)).row (by omega) (by omega)
    have g0 : (setI (setI S1 t 4 v) t 5 v).1 t 0 = nI ev := by rw [setI_slot _ _ _ _ (by omega), setI_slot _ _ _ _ (by omega), c6'.1 t (by omega)]; exact h0
    have g81 : (setI (setI T1 81 j v) 82 j 0).1 81 j = (setI (setI S1 t 4 v) t 5 v).1 t 5 := by rw [setI_row _ _ _ _ (by omega), setI_same, setI_same]
    have f1 : cS t S (setI (setI S1 t 4 v) t 5 v) := c6'.s.tr (cS.tr cS.set cS.set)
    have f2 : rS j T (setI (setI T1 81 j v) 82 j 0) := c7.s.tr ((rS.set (by omega) (by omega)).tr (rS.set (by omega) (by omega)))
    rcases third_ag ce at1 ht hj hev g0 g81 with ⟨S', T', k', d1, d2, d3, d4, d5, d6, d7, d8, d9⟩ | ⟨S', T', e, q, d1, d2, d3, d4, d5, d6, d7, d8⟩
    · left
      rw [d1, mBind_of, if_neg (by decide), d2]
      refine ⟨S', T', k', v, rfl, rfl, f1.tr d3, f2.tr d4, d5, c3, c4, ?_, ?_, ?_, fun i hi => ?_, fun b q1 q2 q3 => ?_, d8, d9⟩
      · rw [d6 4 (by omega) (by omega), setI_slot _ _ _ _ (by omega), setI_same]
      · rw [d6 5 (by omega) (by omega), setI_same]
      · rw [d7 81 (by omega) (by omega), setI_row _ _ _ _ (by omega), setI_same]
      · rw [d6 i (by omega) (by omega), setI_slot _ _ _ _ (by omega), setI_slot _ _ _ _ (by omega), c6'.1 t (by omega)]
      · rw [d7 b q1 q3, setI_row _ _ _ _ q3, setI_row _ _ _ _ q2, c7.1 b q1]
    · right
      rw [d1, mBind_of, if_pos rfl, d2]
      exact ⟨S', T', e, q, rfl, rfl, d3, d4, d5, d6, f1.tr d7, f2.tr d8⟩
  · right
    obtain ⟨T', k1, k2, k3⟩ := ix97_dead (ev := nI ev) (z := x) c6' c3 c4 hj
    rw [c1, mBind_of, c2, mBind_of, k1]
    unfold f_X1_readOperands_54
    simp only [bnd, if_true]
    exact ⟨_, T', e, q, rfl, rfl, c3, c4, ⟨by rw [setI_row _ _ _ _ (by omega), setI_row _ _ _ _ (by omega)]; exact c5.1, by rw [setI_row _ _ _ _ (by omega), setI_row _ _ _ _ (by omega)]; exact c5.2⟩, k3, c7.s.tr (cS.tr cS.set cS.set), c8.s.tr k2⟩
def refOp (j : Nat) (ev : Int32) (T : mM) : Option (Unit × mM) := mBind (f_X12_taken (0 : Int32) (3 : Int32) T) fun r5 S6 => if ev = (7 : Int32) then mBind (f_X12_taken (0 : Int32) (3 : Int32) (setI S6 80 j r5)) fun r8 S9 => f_X12_readEvent_97 (nI j) ev r8 (nI j) S9 else mBind (f_X12_taken (-128 : Int32) (127 : Int32) (setI S6 80 j r5)) fun r10 S11 => f_X12_readEvent_97 (nI j) ev r10 (nI j) S11
/-- what the operands of a stage are, in both -/
def oD (S T : mM) (t j ev : Nat) : Prop :=
  (∃ x, x ≤ 3 ∧ S.1 t 3 = nI x) ∧ T.1 80 j = S.1 t 3 ∧ T.1 81 j = S.1 t 5 ∧ T.1 81 j = S.1 t 4 ∧ (ev = 7 → ∃ x, x ≤ 3 ∧ S.1 t 4 = nI x) ∧
  (ev = 2 ∨ ev = 3 → (∃ v, 1 ≤ v ∧ v ≤ 200 ∧ S.1 t 7 = nI v) ∧ T.1 82 j = S.1 t 7) ∧ (ev = 4 ∨ ev = 5 ∨ ev = 6 → T.1 82 j = S.1 t 6)
theorem op_ag {S T : mM} {B : Nat → Int32} {n K k t j ev : Nat} (h : CE S B n K) (hA : At S T B n K k) (ht : 28 ≤ t) (hj : j < 6) (hev : ev ≤ 7) (h0 : S.1 t 0 = nI ev) :
    (∃ S' T' k', f_X1_readOperands t S = some (1, S') ∧ refOp j (nI ev) T = some ((), T') ∧ cS t S S' ∧ rS j T T' ∧ At S' T' B n K k' ∧ oD S' T' t j ev ∧ (∀ i, i < 3 → S'.1 t i = S.1 t i) ∧ (∀ b, b ≠ 69 → b < 80 ∨ 82 < b → T'.1 b = T.1 b)) ∨
    (∃ S' T' e q, f_X1_readOperands t S = some (0, S') ∧ refOp j (nI ev) T = some ((), T') ∧ 1 ≤ e ∧ e ≤ 5 ∧ cFl S' e q ∧ Dd T' e q ∧ cS t S S' ∧ rS j T T') := by
  unfold f_X1_readOperands refOp
  rcases tn_ag (lo := 0) (hi := 3) (ab := -1000) h hA (hab1000 (by decide)) with ⟨S1, T1, v, c1, c2, c3, c4, c5, c6', c7, c8, -, -⟩ | ⟨S1, T1, x, e, q, c1, c2, c3, c4, c5, c6', c7, c8⟩
  · obtain ⟨v, hv, rfl⟩ := (upto (p := v) (n := 3) (by omega)).mp ⟨c3, c4⟩
    rw [c1, mBind_of, if_neg (by decide), c2, mBind_of]
    simp only [bnd]
    rw [c5]
    have ce : CE (setI S1 t 3 (nI v)) B n K := (cS.set (t := t)).ce ht (c6'.ce h)
    have at1 : At (setI S1 t 3 (nI v)) (setI T1 80 j (nI v)) B n K (k + 1) := c8.row (by omega) (by omega)
    have g0 : (setI S1 t 3 (nI v)).1 t 0 = nI ev := by rw [setI_slot _ _ _ _ (by omega), c6'.1 t (by omega)]; exact h0
    have f1 : cS t S (setI S1 t 3 (nI v)) := c6'.s.tr cS.set
    have f2 : rS j T (setI T1 80 j (nI v)) := c7.s.tr (rS.set (by omega) (by omega))
    rw [g0]
    have fin : ∀ lo hi : Int32, -1000 < lo → (ev = 7 → lo = 0 ∧ hi = 3) →
        (∃ S' T' k', (mBind (f_X1_takeNumber lo hi (-1000) (setI S1 t 3 (nI v))) fun r S5 => f_X1_readOperands_54 t r S5) = some (1, S') ∧ (mBind (f_X12_taken lo hi (setI T1 80 j (nI v))) fun r S9 => f_X12_readEvent_97 (nI j) (nI ev) r (nI j) S9) = some ((), T') ∧ cS t S S' ∧ rS j T T' ∧ At S' T' B n K k' ∧ oD S' T' t j ev ∧ (∀ i, i < 3 → S'.1 t i = S.1 t i) ∧ (∀ b, b ≠ 69 → b < 80 ∨ 82 < b → T'.1 b = T.1 b)) ∨
        (∃ S' T' e q, (mBind (f_X1_takeNumber lo hi (-1000) (setI S1 t 3 (nI v))) fun r S5 => f_X1_readOperands_54 t r S5) = some (0, S') ∧ (mBind (f_X12_taken lo hi (setI T1 80 j (nI v))) fun r S9 => f_X12_readEvent_97 (nI j) (nI ev) r (nI j) S9) = some ((), T') ∧ 1 ≤ e ∧ e ≤ 5 ∧ cFl S' e q ∧ Dd T' e q ∧ cS t S S' ∧ rS j T T') := fun lo hi hlo h7 => by
      rcases second_ag (lo := lo) (hi := hi) hlo ce at1 ht hj hev g0 with ⟨S', T', k', w, d1, d2, d3, d4, d5, d6, d7, d8, d9, d10, d11, d12, d13, d14⟩ | ⟨S', T', e, q, d1, d2, d3, d4, d5, d6, d7, d8⟩
      · left
        refine ⟨S', T', k', d1, d2, f1.tr d3, f2.tr d4, d5, ⟨⟨v, hv, ?_⟩, ?_, by rw [d9, d10], by rw [d8, d10], fun z => ?_, d13, d14⟩, fun i hi => ?_, fun b q1 q2 => ?_⟩
        · rw [d11 3 (by omega), setI_same]
        · rw [d12 80 (by omega) (by omega) (by omega), setI_same, d11 3 (by omega), setI_same]
        · obtain ⟨rfl, rfl⟩ := h7 z
          obtain ⟨w, hw, rfl⟩ := (upto (p := w) (n := 3) (by omega)).mp ⟨d6, d7⟩
          exact ⟨w, hw, d8⟩
        · rw [d11 i (by omega), setI_slot _ _ _ _ (by omega), c6'.1 t (by omega)]
        · rw [d12 b q1 (by omega) (by omega), setI_row _ _ _ _ (by omega), c7.1 b q1]
      · right
        exact ⟨S', T', e, q, d1, d2, d3, d4, d5, d6, f1.tr d7, f2.tr d8⟩
    by_cases e7 : ev = 7
    · have z : nI ev = (7 : Int32) := by rw [e7]; rfl
      rw [if_pos z, if_pos z]
      exact fin 0 3 (by decide) (fun _ => ⟨rfl, rfl⟩)
    · have z : ¬ nI ev = (7 : Int32) := fun q => e7 ((nI_eq (b := 7) (by omega) (by omega)).mp q)
      rw [if_neg z, if_neg z]
      exact fin (-128) 127 (by decide) (fun q => absurd q e7)
  · right
    rw [c1, mBind_of, if_pos rfl, c2, mBind_of]
    have dd : Dd (setI T1 80 j x) e q := c6'.row (by omega)
    rw [taken_dead dd c3 c4, taken_dead dd c3 c4, mBind_of]
    obtain ⟨T', k1, k2, k3⟩ := ix97_dead (ev := nI ev) (z := (setI T1 80 j x).1 69 23) dd c3 c4 hj
    rw [k1, ite_self]
    exact ⟨_, T', e, q, rfl, rfl, c3, c4, c5, k3, c7.s, (c8.s.tr (rS.set (by omega) (by omega))).tr k2⟩
/-! limits -/
def limR (j : Nat) (T : mM) : Option (Unit × mM) :=
  if (setI T 83 j 0).1 69 18 = 0 then
    if (setI T 83 j 0).1 69 22 = (1 : Int32) then
      if (setI T 83 j 0).1 69 23 = (8 : Int32) then
        mBind (f_X12_next (setI T 83 j 0)) fun _ S5 =>
        mBind (f_X12_taken (1 : Int32) (200 : Int32) S5) fun r6 S7 =>
        some ((), setI (setI S7 83 j r6) 69 11 ((setI S7 83 j r6).1 69 11 + (1 : Int32)))
      else some ((), setI (setI T 83 j 0) 69 11 ((setI T 83 j 0).1 69 11 + (1 : Int32)))
    else some ((), setI (setI T 83 j 0) 69 11 ((setI T 83 j 0).1 69 11 + (1 : Int32)))
  else some ((), setI (setI T 83 j 0) 69 11 ((setI T 83 j 0).1 69 11 + (1 : Int32)))
theorem st84 {T : mM} {j : Nat} (hj : j < 6) : f_X12_readStage_84 (nI j) T = mBind (f_X12_readEvent (nI j) T) fun _ S2 => limR j S2 := by
  unfold f_X12_readStage_84 limR
  simp only [if_pos (ix hj (show 6 < 2 ^ 31 by omega)), if_pos (ixc hj (show 6 < 2 ^ 31 by omega)), nI_clamp (show j < 2 ^ 31 by omega), bnd]
theorem Dd.s11 {T : mM} {e q : Nat} {v : Int32} (h : Dd T e q) : Dd (setI T 69 11 v) e q := ⟨by rw [setI_slot _ _ _ _ (by omega)]; exact h.1, by rw [setI_slot _ _ _ _ (by omega)]; exact h.2⟩
theorem At.s11 {S T : mM} {B : Nat → Int32} {n K k : Nat} {v : Int32} (h : At S T B n K k) : At S (setI T 69 11 v) B n K k := by
  refine ⟨h.1, h.2.1, ?_, h.2.2.2.1, by rw [setI_slot _ _ _ _ (by omega)]; exact h.2.2.2.2.1, fun k hk => by rw [setI_row _ _ _ _ (by omega)]; exact h.2.2.2.2.2 k hk⟩
  have z := h.2.2.1
  unfold Nx at z ⊢
  rw [setI_slot _ _ _ _ (show 18 ≠ 11 by omega), setI_slot _ _ _ _ (show 19 ≠ 11 by omega), setI_slot _ _ _ _ (show 20 ≠ 11 by omega), setI_slot _ _ _ _ (show 21 ≠ 11 by omega), setI_slot _ _ _ _ (show 22 ≠ 11 by omega), setI_slot _ _ _ _ (show 23 ≠ 11 by omega)]
  exact z
theorem lim_dead {T : mM} {e q j : Nat} (h : Dd T e q) (h1 : 1 ≤ e) (h5 : e ≤ 5) : ∃ T', limR j T = some ((), T') ∧ rS1 j T T' ∧ Dd T' e q := by
  have d1 : Dd (setI T 83 j 0) e q := h.row (by omega)
  have ne : ¬ (setI T 83 j 0).1 69 18 = 0 := by rw [d1.1]; exact nI_ne0 (by omega) (by omega)
  unfold limR
  rw [if_neg ne]
  exact ⟨_, rfl, (rS.set (by omega) (by omega)).one.tr rS1.set11, d1.s11⟩
theorem within_ag {S T : mM} {B : Nat → Int32} {n K k t j : Nat} (h : CE S B n K) (hA : At S T B n K k) (ht : 28 ≤ t) (hj : j < 6) (h11 : T.1 69 11 = nI j) :
    (∃ S' T' k' x, f_X1_readWithin t S = some (1, S') ∧ limR j T = some ((), T') ∧ cS t S S' ∧ rS1 j T T' ∧ At S' T' B n K k' ∧ x ≤ 200 ∧ S'.1 t 2 = nI x ∧ T'.1 83 j = nI x ∧ T'.1 69 11 = nI (j + 1) ∧ (∀ i, i ≠ 2 → S'.1 t i = S.1 t i) ∧ (∀ b, b ≠ 69 → b ≠ 83 → T'.1 b = T.1 b)) ∨
    (∃ S' T' e q, f_X1_readWithin t S = some (0, S') ∧ limR j T = some ((), T') ∧ 1 ≤ e ∧ e ≤ 5 ∧ cFl S' e q ∧ Dd T' e q ∧ cS t S S' ∧ rS1 j T T') := by
  have ce : CE (setI S t 2 0) B n K := (cS.set (t := t)).ce ht h
  have at1 : At (setI S t 2 0) (setI T 83 j 0) B n K k := hA.row (by omega) (by omega)
  have g11 : (setI T 83 j 0).1 69 11 = nI j := by rw [setI_row _ _ _ _ (by omega)]; exact h11
  unfold f_X1_readWithin
  simp only [bnd]
  rw [seesW_eq ce at1.1.1 at1.2.1, mBind_of]
  by_cases hw : kd B n k = 1 ∧ vl B n k = 8
  · rw [if_neg (fun z => b01.mp z hw)]
    have k5 : ¬ kd B n k = 5 := by rw [hw.1]; decide
    have hkK := kd_lt h hA.2.1 (by rw [hw.1]; decide)
    have hlive : (setI T 83 j 0).1 69 18 = 0 ∧ (setI T 83 j 0).1 69 22 = 1 ∧ (setI T 83 j 0).1 69 23 = 8 := by
      rcases at1.2.2.1 with z | ⟨-, z1, -, -, z4⟩
      · exact absurd z.1 k5
      · rcases z4 with y | y | y | y | y
        · have y1 : kd B n k = 0 := y.1
          rw [hw.1] at y1
          exact absurd y1 (by decide)
        · refine ⟨z1, y.2.1, ?_⟩
          rw [y.2.2]
          exact hw.2
        · have y1 : kd B n k = 2 := y.1
          rw [hw.1] at y1
          exact absurd y1 (by decide)
        · have y1 : kd B n k = 3 := y.1
          rw [hw.1] at y1
          exact absurd y1 (by decide)
        · have y1 : kd B n k = 4 := y.1
          rw [hw.1] at y1
          exact absurd y1 (by decide)
    obtain ⟨T5, t1, t2, t3⟩ := adv ce hkK at1.2.2.2 at1.2.2.1 k5
    have at2 : At (setI (setI S t 2 0) 6 1 (nI (k + 1))) T5 B n K (k + 1) := ⟨⟨setI_same _ _ _ _, by rw [setI_slot _ _ _ _ (by omega)]; exact at1.1.2⟩, by omega, t3, t2.bE at1.2.2.2⟩
    have ce2 : CE (setI (setI S t 2 0) 6 1 (nI (k + 1))) B n K := (cS.set6 (t := t)).ce ht ce
    unfold limR
    rw [if_pos hlive.1, if_pos hlive.2.1, if_pos hlive.2.2, t1, mBind_of, at1.1.1, nI_1]
    have t11 : T5.1 69 11 = nI j := by rw [t2.2.1 11 (by omega)]; exact g11
    have f1 : cS t S (setI (setI S t 2 0) 6 1 (nI (k + 1))) := cS.set.tr cS.set6
    have f2 : rS j T T5 := (rS.set (by omega) (by omega)).tr t2.s
    rcases tn_ag (lo := 1) (hi := 200) (ab := -1000) ce2 at2 (hab1000 (by decide)) with ⟨S1, T1, v, c1, c2, c3, c4, c5, c6', c7, c8, -, -⟩ | ⟨S1, T1, x, e, q, c1, c2, c3, c4, c5, c6', c7, c8⟩
    · left
      obtain ⟨v, hv, rfl⟩ := (upto (p := v) (n := 200) (by omega)).mp ⟨Int32.le_trans (by decide) c3, c4⟩
      rw [c1, mBind_of, c2, mBind_of, if_pos (Or.inr rfl), c5]
      have u11 : (setI T1 83 j (nI v)).1 69 11 = nI j := by rw [setI_row _ _ _ _ (by omega), c7.2.1 11 (by omega)]; exact t11
      rw [u11, nI_1]
      refine ⟨_, _, k + 1 + 1, v, rfl, rfl, (f1.tr c6'.s).tr cS.set, ((f2.tr c7.s).tr (rS.set (by omega) (by omega))).one.tr rS1.set11, (c8.row (by omega) (by omega)).s11, hv, setI_same _ _ _ _, ?_, setI_same _ _ _ _, fun i hi => ?_, fun b q1 q2 => ?_⟩
      · rw [setI_row _ _ _ _ (by omega), setI_same]
      · rw [setI_slot _ _ _ _ hi, c6'.1 t (by omega), setI_row _ _ _ _ (by omega), setI_slot _ _ _ _ hi]
      · rw [setI_row _ _ _ _ q1, setI_row _ _ _ _ q2, c7.1 b q1, t2.1 b q1, setI_row _ _ _ _ q2]
    · right
      rw [c1, mBind_of, c2, mBind_of, if_pos (Or.inl rfl)]
      exact ⟨_, _, e, q, rfl, rfl, c3, c4, ⟨by rw [setI_row _ _ _ _ (by omega)]; exact c5.1, by rw [setI_row _ _ _ _ (by omega)]; exact c5.2⟩, (c6'.row (by omega)).s11, (f1.tr c7.s).tr cS.set, ((f2.tr c8.s).tr (rS.set (by omega) (by omega))).one.tr rS1.set11⟩
  · left
    rw [if_pos (b01.mpr hw)]
    have hR : limR j T = some ((), setI (setI T 83 j 0) 69 11 (nI (j + 1))) := by
      unfold limR
      rw [g11, nI_1]
      by_cases y1 : (setI T 83 j 0).1 69 18 = 0
      · rw [if_pos y1]
        by_cases y2 : (setI T 83 j 0).1 69 22 = 1
        · rw [if_pos y2]
          by_cases y3 : (setI T 83 j 0).1 69 23 = 8
          · exfalso
            rcases at1.2.2.1 with u | ⟨-, -, -, -, u | u | u | u | u⟩
            · rw [y1] at u
              exact absurd u.2.1 (by decide)
            · rw [y2] at u
              exact absurd u.2 (by decide)
            · apply hw
              refine ⟨u.1, ?_⟩
              rw [y3] at u
              exact u.2.2.symm
            · rw [y2] at u
              exact absurd u.2.1 (by decide)
            · rw [y2] at u
              exact absurd u.2.1 (by decide)
            · rw [y2] at u
              exact absurd u.2.1 (by decide)
          · rw [if_neg y3]
        · rw [if_neg y2]
      · rw [if_neg y1]
    rw [hR]
    refine ⟨_, _, k, 0, rfl, rfl, cS.set, (rS.set (by omega) (by omega)).one.tr rS1.set11, at1.s11, by omega, setI_same _ _ _ _, ?_, setI_same _ _ _ _, fun i hi => setI_slot _ _ _ _ hi _, fun b q1 q2 => ?_⟩
    · rw [setI_row _ _ _ _ (by omega), setI_same]
      rfl
    · rw [setI_row _ _ _ _ q1, setI_row _ _ _ _ q2]
