/-! PURE: trigger: a stage, a plan -/
theorem tK_1 {B : Nat → Int32} {n i : Nat} (h : tK B n i = 1) : ∃ e, e ≤ 8 ∧ tV B n i = nI e := by
  unfold tK at h
  unfold tV
  by_cases c0 : n ≤ i
  · rw [if_pos c0] at h
    exact absurd h (by decide)
  rw [if_neg c0] at h ⊢
  by_cases c1 : B i = 42
  · rw [if_pos c1] at h
    exact absurd h (by decide)
  rw [if_neg c1] at h ⊢
  by_cases c2 : B i = 59
  · rw [if_pos c2] at h
    exact absurd h (by decide)
  rw [if_neg c2] at h ⊢
  by_cases c3 : isLt B i = true
  · rw [if_pos c3] at h ⊢
    by_cases c4 : wo B (wE B n i - i) i = 9
    · rw [if_pos c4] at h
      exact absurd h (by decide)
    · obtain ⟨k, hk, hk'⟩ := wo_le B (wE B n i - i) i
      refine ⟨k, ?_, hk'⟩
      by_cases q : k = 9
      · exfalso
        apply c4
        rw [hk', q]
        rfl
      · omega
  · rw [if_neg c3] at h
    split at h
    · exact absurd h (by decide)
    · exact absurd h (by decide)
def sD (S T : mM) (t j : Nat) : Prop := ∃ ev x, ev ≤ 7 ∧ S.1 t 0 = nI ev ∧ T.1 79 j = nI ev ∧ x ≤ 200 ∧ S.1 t 2 = nI x ∧ T.1 83 j = nI x ∧ oD S T t j ev
theorem ev_dead {T : mM} {e q j : Nat} (h : Dd T e q) (h1 : 1 ≤ e) (h5 : e ≤ 5) : f_X12_readEvent (nI j) T = some ((), T) := by
  have ne : ¬ T.1 69 18 = 0 := by rw [h.1]; exact nI_ne0 (by omega) (by omega)
  have nl : ¬ T.1 69 18 ≤ 0 := by rw [h.1]; exact nI_nle (by omega) (by omega)
  unfold f_X12_readEvent f_X12_readEvent_33
  rw [if_neg ne, if_neg nl]
theorem dead84 {T : mM} {e q j : Nat} (h : Dd T e q) (h1 : 1 ≤ e) (h5 : e ≤ 5) (hj : j < 6) : ∃ T', f_X12_readStage_84 (nI j) T = some ((), T') ∧ rS1 j T T' ∧ Dd T' e q := by
  rw [st84 hj, ev_dead h h1 h5, mBind_of]
  exact lim_dead h h1 h5
theorem failed {T : mM} {e q : Nat} : Dd (setI (setI T 69 18 (nI e)) 69 19 (nI q)) e q := ⟨by rw [setI_slot _ _ _ _ (by omega), setI_same], setI_same _ _ _ _⟩
theorem stage46_ag {S T : mM} {B : Nat → Int32} {n K k t j : Nat} (h : CE S B n K) (hA : At S T B n K k) (ht : 28 ≤ t) (hj : j < 6) (h11 : T.1 69 11 = nI j) :
    (∃ S' T' k', f_X1_readStage_46 t S = some (1, S') ∧ f_X12_readStage_84 (nI j) T = some ((), T') ∧ cS t S S' ∧ rS1 j T T' ∧ At S' T' B n K k' ∧ sD S' T' t j ∧ T'.1 69 11 = nI (j + 1) ∧ S'.1 t 1 = S.1 t 1 ∧ T'.1 78 = T.1 78) ∨
    (∃ S' T' e q, f_X1_readStage_46 t S = some (0, S') ∧ f_X12_readStage_84 (nI j) T = some ((), T') ∧ 1 ≤ e ∧ e ≤ 5 ∧ cFl S' e q ∧ Dd T' e q ∧ cS t S S' ∧ rS1 j T T') := by
  rw [st84 hj]
  unfold f_X1_readStage_46
  rw [seesW_eq h hA.1.1 hA.2.1, mBind_of]
  have hA' := hA
  obtain ⟨⟨a1, a0⟩, a2, a3, a4⟩ := hA'
  by_cases hgood : kd B n k = 1 ∧ ¬ vl B n k = 8
  · have k5 : ¬ kd B n k = 5 := by rw [hgood.1]; decide
    have hkK := kd_lt h a2 (by rw [hgood.1]; decide)
    obtain ⟨ev, he8, hev⟩ := tK_1 (show tK B n (tS B n k) = 1 from hgood.1)
    have he7 : ev ≤ 7 := by
      by_cases q : ev = 8
      · exfalso
        apply hgood.2
        unfold vl
        rw [hev, q]
        rfl
      · omega
    rw [if_pos (b01.mpr (fun z => hgood.2 z.2))]
    rcases take_eq (p := 1) h a1 a2 with ⟨-, S1, c1, c2, c3, c4, c5⟩ | z
    case inr => exact absurd hgood.1 z.1
    have c4 : S1.1 6 2 = nI ev := by rw [c4]; exact hev
    rw [c1, mBind_of, if_neg (by decide)]
    simp only [bnd]
    rw [c4]
    -- the reference: the word, then the next token
    have hlive : T.1 69 18 = 0 ∧ T.1 69 22 = 1 ∧ T.1 69 23 = nI ev := by
      rcases a3 with z | ⟨-, z1, -, -, z4⟩
      · exact absurd z.1 k5
      · rcases z4 with y | y | y | y | y
        · have y1 : kd B n k = 0 := y.1
          rw [hgood.1] at y1
          exact absurd y1 (by decide)
        · refine ⟨z1, y.2.1, ?_⟩
          rw [y.2.2]
          exact hev
        · have y1 : kd B n k = 2 := y.1
          rw [hgood.1] at y1
          exact absurd y1 (by decide)
        · have y1 : kd B n k = 3 := y.1
          rw [hgood.1] at y1
          exact absurd y1 (by decide)
        · have y1 : kd B n k = 4 := y.1
          rw [hgood.1] at y1
          exact absurd y1 (by decide)
    have at0 : At S (setI T 79 j (nI ev)) B n K k := hA.r (by omega)
    obtain ⟨T4, t1, t2, t3⟩ := adv h hkK at0.2.2.2 at0.2.2.1 k5
    have hne8 : ¬ nI ev = (8 : Int32) := fun z => by
      have := (nI_eq (b := 8) (by omega) (by omega)).mp z
      omega
    have hR : f_X12_readEvent (nI j) T = refOp j (nI ev) T4 := by
      unfold f_X12_readEvent f_X12_readEvent_33 refOp
      rw [if_pos hlive.1, if_pos hlive.2.1, hlive.2.2, if_neg hne8, if_pos (show T.1 69 18 ≤ 0 by rw [hlive.1]; decide)]
      simp only [bnd]
      rw [if_pos (ix hj (by omega)), nI_clamp (by omega), t1, mBind_of]
      simp only [if_pos (ixc hj (show 6 < 2 ^ 31 by omega))]
    have ce5 : CE (setI S1 t 0 (nI ev)) B n K := (cS.set (t := t)).ce ht (c2.ce h)
    have at5 : At (setI S1 t 0 (nI ev)) T4 B n K (k + 1) := ⟨⟨by rw [setI_row _ _ _ _ (by omega)]; exact c3, by rw [setI_row _ _ _ _ (by omega), c5]; exact a0⟩, by omega, t3, t2.bE at0.2.2.2⟩
    have f1 : cS t S (setI S1 t 0 (nI ev)) := c2.s.tr cS.set
    have f2 : rS j T T4 := (rS.set (by omega) (by omega)).tr t2.s
    rw [hR]
    rcases op_ag (ev := ev) ce5 at5 ht hj he7 (setI_same _ _ _ _) with ⟨S7, T7, k7, d1, d2, d3, d4, d5, d6, d7, d8⟩ | ⟨S', T7, e, q, d1, d2, d3, d4, d5, d6, d7, d8⟩
    · rw [d1, mBind_of, if_neg (by decide), d2, mBind_of]
      have g11 : T7.1 69 11 = nI j := by rw [d4.2.1 11 (by omega), f2.2.1 11 (by omega)]; exact h11
      rcases within_ag (j := j) (d3.ce ht ce5) d5 ht hj g11 with ⟨S', T', k', x, u1, u2, u3, u4, u5, u6, u7, u8, u9, u10, u11⟩ | ⟨S', T', e, q, u1, u2, u3, u4, u5, u6, u7, u8⟩
      · left
        rw [u1, mBind_of, if_neg (by decide), u2]
        obtain ⟨o1, o2, o3, o4, o5, o6, o7⟩ := d6
        refine ⟨S', T', k', rfl, rfl, (f1.tr d3).tr u3, (f2.tr d4).one.tr u4, u5, ⟨ev, x, he7, ?_, ?_, u6, u7, u8, ?_⟩, u9, ?_, ?_⟩
        · rw [u10 0 (by omega), d7 0 (by omega), setI_same]
        · rw [u11 79 (by omega) (by omega), d8 79 (by omega) (by omega), t2.1 79 (by omega), setI_same]
        · unfold oD
          rw [u10 3 (by omega), u10 4 (by omega), u10 5 (by omega), u10 6 (by omega), u10 7 (by omega), u11 80 (by omega) (by omega), u11 81 (by omega) (by omega), u11 82 (by omega) (by omega)]
          exact ⟨o1, o2, o3, o4, o5, o6, o7⟩
        · rw [u10 1 (by omega), d7 1 (by omega), setI_slot _ _ _ _ (by omega), c2.1 t (by omega)]
        · rw [u11 78 (by omega) (by omega), d8 78 (by omega) (by omega), t2.1 78 (by omega), setI_row _ _ _ _ (by omega)]
      · right
        rw [u1, mBind_of, if_pos rfl, u2]
        exact ⟨S', T', e, q, rfl, rfl, u3, u4, u5, u6, (f1.tr d3).tr u7, (f2.tr d4).one.tr u8⟩
    · right
      obtain ⟨T', k1, k2, k3⟩ := lim_dead (j := j) d6 d3 d4
      rw [d1, mBind_of, if_pos rfl, d2, mBind_of, k1]
      exact ⟨S', T', e, q, rfl, rfl, d3, d4, d5, k3, f1.tr d7, (f2.tr d8).one.tr k2⟩
  · right
    -- the class refuses
    have hC : ∃ S', (if (if kd B n k = 1 ∧ vl B n k = 8 then (1 : Int32) else 0) = 0 then mBind (f_X1_take (1 : Int32) S) fun r3 S4 => if r3 = 0 then some ((0 : Int32), S4) else bnd (setI S4 t 0 (S4.1 6 2)) fun S5 => mBind (f_X1_readOperands t S5) fun r6 S7 => if r6 = 0 then some ((0 : Int32), S7) else mBind (f_X1_readWithin t S7) fun r8 S9 => if r8 = 0 then some ((0 : Int32), S9) else some ((1 : Int32), S9)
        else mBind (f_X1_refuse (2 : Int32) S) fun r10 S11 => if r10 = 0 ∨ r10 = 1 then some (r10, S11) else none) = some (0, S') ∧ c6 S S' ∧ cFl S' (if kd B n k = 5 then 1 else 2) (tS B n k) := by
      by_cases hw : kd B n k = 1 ∧ vl B n k = 8
      · rw [if_neg (fun z => b01.mp z hw)]
        obtain ⟨S', r1, r2, r3⟩ := refuse_eq (e := 2) h a1 a2
        have r1 : f_X1_refuse 2 S = some (0, S') := r1
        rw [r1, mBind_of, if_pos (Or.inl rfl)]
        exact ⟨S', rfl, r2, r3⟩
      · rw [if_pos (b01.mpr hw)]
        rcases take_eq (p := 1) h a1 a2 with z | ⟨-, S1, c1, c2, c3⟩
        · exact absurd ⟨z.1, fun y => hw ⟨z.1, y⟩⟩ hgood
        · rw [c1, mBind_of, if_pos rfl]
          exact ⟨S1, rfl, c2, c3⟩
    obtain ⟨S', c1, c2, c3⟩ := hC
    by_cases k5 : kd B n k = 5
    · rw [if_pos k5] at c3
      rcases a3 with ⟨-, z1, z2⟩ | z
      case inr => exact absurd k5 z.1
      have dd : Dd T 1 (tS B n k) := ⟨z1, z2⟩
      obtain ⟨T', l1, l2, l3⟩ := lim_dead (j := j) dd (by omega) (by omega)
      refine ⟨S', T', 1, _, c1, ?_, by omega, by omega, c3, l3, c2.s, l2⟩
      rw [ev_dead dd (by omega) (by omega), mBind_of]
      exact l1
    · rw [if_neg k5] at c3
      rcases a3 with z | ⟨-, z1, z2, -, z4⟩
      case inl => exact absurd z.1 k5
      have dd : Dd (setI (setI T 69 18 2) 69 19 (nI (tS B n k))) 2 (tS B n k) := failed (e := 2)
      have nl : ¬ (setI (setI T 69 18 2) 69 19 (nI (tS B n k))).1 69 18 ≤ 0 := by rw [dd.1]; exact nI_nle (by omega) (by omega)
      have h24 : f_X12_readEvent_24 (nI j) T = some ((), setI (setI T 69 18 2) 69 19 (nI (tS B n k))) := by
        unfold f_X12_readEvent_24 f_X12_readEvent_33
        rw [z2, fails_eq z1, mBind_of, if_neg nl]
      have hev : f_X12_readEvent (nI j) T = some ((), setI (setI T 69 18 2) 69 19 (nI (tS B n k))) := by
        unfold f_X12_readEvent
        rw [if_pos z1, h24]
        by_cases y2 : T.1 69 22 = 1
        · rw [if_pos y2]
          by_cases y3 : T.1 69 23 = 8
          · rw [if_pos y3]
          · exfalso
            rcases z4 with u | u | u | u | u
            · rw [y2] at u
              exact absurd u.2 (by decide)
            · apply hgood
              refine ⟨u.1, fun y => y3 ?_⟩
              rw [u.2.2]
              exact y
            · rw [y2] at u
              exact absurd u.2.1 (by decide)
            · rw [y2] at u
              exact absurd u.2.1 (by decide)
            · rw [y2] at u
              exact absurd u.2.1 (by decide)
        · rw [if_neg y2]
      obtain ⟨T', l1, l2, l3⟩ := lim_dead (j := j) dd (by omega) (by omega)
      refine ⟨S', T', 2, _, c1, ?_, by omega, by omega, c3, l3, c2.s, ((nF.set (by omega)).tr (nF.set (by omega))).s.one.tr l2⟩
      rw [hev, mBind_of]
      exact l1
def sT (S T : mM) (t j : Nat) : Prop := sD S T t j ∧ ∃ x, 1 ≤ x ∧ x ≤ 20 ∧ S.1 t 1 = nI x ∧ T.1 78 j = nI x
theorem stage_ag {S T : mM} {B : Nat → Int32} {n K k t j : Nat} (h : CE S B n K) (hA : At S T B n K k) (ht : 28 ≤ t) (hj : j < 6) (h11 : T.1 69 11 = nI j) (k5 : ¬ kd B n k = 5) :
    (∃ S' T' k', f_X1_readStage t S = some (1, S') ∧ f_X12_readStage T = some ((), T') ∧ cS t S S' ∧ rS1 j T T' ∧ At S' T' B n K k' ∧ sT S' T' t j ∧ T'.1 69 11 = nI (j + 1)) ∨
    (∃ S' T' e q, f_X1_readStage t S = some (0, S') ∧ f_X12_readStage T = some ((), T') ∧ 1 ≤ e ∧ e ≤ 5 ∧ cFl S' e q ∧ Dd T' e q ∧ cS t S S' ∧ rS1 j T T') := by
  have ce1 : CE (setI S t 1 1) B n K := (cS.set (t := t)).ce ht h
  have at1 : At (setI S t 1 1) (setI T 78 j 1) B n K k := hA.row (by omega) (by omega)
  have g11 : (setI T 78 j 1).1 69 11 = nI j := by rw [setI_row _ _ _ _ (by omega)]; exact h11
  have f1 : cS t S (setI S t 1 1) := cS.set
  have f2 : rS j T (setI T 78 j 1) := rS.set (by omega) (by omega)
  have at1' := at1
  obtain ⟨⟨a1, a0⟩, a2, a3, a4⟩ := at1'
  rcases a3 with z | ⟨-, z1, z2, -, z4⟩
  case inl => exact absurd z.1 k5
  unfold f_X1_readStage f_X12_readStage
  simp only [bnd]
  rw [h11, if_pos (ix hj (by omega)), nI_clamp (by omega), if_pos z1, sees_eq ce1 a1 a2, mBind_of]
  by_cases k2 : kd B n k = 2
  · have s2 : (setI T 78 j 1).1 69 22 = 2 := by
      rcases z4 with y | y | y | y | y
      · have y1 : kd B n k = 0 := y.1
        rw [k2] at y1
        exact absurd y1 (by decide)
      · have y1 : kd B n k = 1 := y.1
        rw [k2] at y1
        exact absurd y1 (by decide)
      · exact y.2.1
      · have y1 : kd B n k = 3 := y.1
        rw [k2] at y1
        exact absurd y1 (by decide)
      · have y1 : kd B n k = 4 := y.1
        rw [k2] at y1
        exact absurd y1 (by decide)
    rw [if_pos k2, if_neg (by decide), if_pos s2]
    rcases tn_ag (lo := 1) (hi := 20) (ab := -1000) ce1 at1 (hab1000 (by decide)) with ⟨S1, T1, v, c1, c2, c3, c4, c5, c6', c7, c8, -, -⟩ | ⟨S1, T1, x, e, q, c1, c2, c3, c4, c5, c6', c7, c8⟩
    · obtain ⟨v, hv, rfl⟩ := (upto (p := v) (n := 20) (by omega)).mp ⟨Int32.le_trans (by decide) c3, c4⟩
      have hv1 := (nI_leI (a := 1) (b := v) (by omega) (by omega)).mp c3
      rw [c1, mBind_of, if_neg (by decide), c2, mBind_of, if_pos (ixc hj (by omega)), c5]
      have ce2 : CE (setI S1 t 1 (nI v)) B n K := (cS.set (t := t)).ce ht (c6'.ce ce1)
      have at2 : At (setI S1 t 1 (nI v)) (setI T1 78 j (nI v)) B n K (k + 1) := c8.row (by omega) (by omega)
      have u11 : (setI T1 78 j (nI v)).1 69 11 = nI j := by rw [setI_row _ _ _ _ (by omega), c7.2.1 11 (by omega)]; exact g11
      have f3 : cS t S (setI S1 t 1 (nI v)) := (f1.tr c6'.s).tr cS.set
      have f4 : rS j T (setI T1 78 j (nI v)) := (f2.tr c7.s).tr (rS.set (by omega) (by omega))
      have at2' := at2
      obtain ⟨⟨b1, b0⟩, b2, b3, b4⟩ := at2'
      rcases take_eq (p := 3) ce2 b1 b2 with ⟨w1, S8, w2, w3, w4, -, w5⟩ | ⟨w1, S8, w2, w3, w4⟩
      · -- a star
        have kk5 : ¬ kd B n (k + 1) = 5 := by rw [w1]; decide
        have hkK := kd_lt ce2 b2 (by rw [w1]; decide)
        have b3' := b3
        rcases b3 with y | ⟨-, y1, -, -, y4⟩
        case inl => exact absurd y.1 kk5
        have s3 : (setI T1 78 j (nI v)).1 69 22 = 3 ∧ (setI T1 78 j (nI v)).1 69 23 = 42 := by
          rcases y4 with y | y | y | y | y
          · have y1 : kd B n (k + 1) = 0 := y.1
            rw [w1] at y1
            exact absurd y1 (by decide)
          · have y1 : kd B n (k + 1) = 1 := y.1
            rw [w1] at y1
            exact absurd y1 (by decide)
          · have y1 : kd B n (k + 1) = 2 := y.1
            rw [w1] at y1
            exact absurd y1 (by decide)
          · exact y.2
          · have y1 : kd B n (k + 1) = 4 := y.1
            rw [w1] at y1
            exact absurd y1 (by decide)
        obtain ⟨T5, t1, t2, t3⟩ := adv ce2 hkK b4 b3' kk5
        have at8 : At S8 T5 B n K (k + 1 + 1) := ⟨⟨w4, by rw [w5]; exact b0⟩, by omega, t3, t2.bE b4⟩
        have v11 : T5.1 69 11 = nI j := by rw [t2.2.1 11 (by omega)]; exact u11
        rw [w2, mBind_of, if_neg (by decide), if_pos y1, if_pos s3.1, if_pos s3.2]
        unfold f_X12_readStage_73
        rw [if_pos y1, t1, mBind_of]
        rcases stage46_ag (w3.ce ce2) at8 ht hj v11 with ⟨S', T', k', d1, d2, d3, d4, d5, d6, d7, d8, d9⟩ | ⟨S', T', e, q, d1, d2, d3, d4, d5, d6, d7, d8⟩
        · left
          refine ⟨S', T', k', d1, d2, (f3.tr w3.s).tr d3, (f4.tr t2.s).one.tr d4, d5, ⟨d6, v, by omega, hv, ?_, ?_⟩, d7⟩
          · rw [d8, w3.1 t (by omega), setI_same]
          · rw [d9, t2.1 78 (by omega), setI_same]
        · right
          exact ⟨S', T', e, q, d1, d2, d3, d4, d5, d6, (f3.tr w3.s).tr d7, (f4.tr t2.s).one.tr d8⟩
      · right
        rw [w2, mBind_of, if_pos rfl]
        by_cases kk5 : kd B n (k + 1) = 5
        · rw [if_pos kk5] at w4
          rcases b3 with ⟨-, y1, y2⟩ | y
          case inr => exact absurd kk5 y.1
          have dd : Dd (setI T1 78 j (nI v)) 1 (tS B n (k + 1)) := ⟨y1, y2⟩
          have ne : ¬ (setI T1 78 j (nI v)).1 69 18 = 0 := by rw [y1]; decide
          obtain ⟨T', l1, l2, l3⟩ := dead84 (j := j) dd (by omega) (by omega) hj
          rw [if_neg ne]
          unfold f_X12_readStage_73
          rw [if_neg ne, l1]
          exact ⟨_, T', 1, _, rfl, rfl, by omega, by omega, w4, l3, f3.tr w3.s, f4.one.tr l2⟩
        · rw [if_neg kk5] at w4
          rcases b3 with y | ⟨-, y1, y2, -, y4⟩
          case inl => exact absurd y.1 kk5
          have dd : Dd (setI (setI (setI T1 78 j (nI v)) 69 18 2) 69 19 (nI (tS B n (k + 1)))) 2 (tS B n (k + 1)) := failed (e := 2)
          have ne : ¬ (setI (setI (setI T1 78 j (nI v)) 69 18 2) 69 19 (nI (tS B n (k + 1)))).1 69 18 = 0 := by rw [dd.1]; exact nI_ne0 (by omega) (by omega)
          obtain ⟨T', l1, l2, l3⟩ := dead84 (j := j) dd (by omega) (by omega) hj
          have h64 : f_X12_readStage_64 (nI j) (setI T1 78 j (nI v)) = some ((), T') := by
            unfold f_X12_readStage_64 f_X12_readStage_73
            rw [y2, fails_eq y1, mBind_of, if_neg ne, l1]
          have f5 : rS1 j T T' := (f4.tr ((nF.set (by omega)).tr (nF.set (by omega))).s).one.tr l2
          rw [if_pos y1, h64]
          refine ⟨_, T', 2, _, rfl, ?_, by omega, by omega, w4, l3, f3.tr w3.s, f5⟩
          by_cases q1 : (setI T1 78 j (nI v)).1 69 22 = 3
          · rw [if_pos q1]
            by_cases q2 : (setI T1 78 j (nI v)).1 69 23 = 42
            · exfalso
              rcases y4 with y | y | y | y | y
              · rw [q1] at y
                exact absurd y.2 (by decide)
              · rw [q1] at y
                exact absurd y.2.1 (by decide)
              · rw [q1] at y
                exact absurd y.2.1 (by decide)
              · exact w1 y.1
              · rw [q2] at y
                exact absurd y.2.2 (by decide)
            · rw [if_neg q2]
          · rw [if_neg q1]
    · right
      have dd : Dd (setI T1 78 j x) e q := c6'.row (by omega)
      have ne : ¬ (setI T1 78 j x).1 69 18 = 0 := by rw [dd.1]; exact nI_ne0 (by omega) (by omega)
      obtain ⟨T', l1, l2, l3⟩ := dead84 (j := j) dd c3 c4 hj
      rw [c1, mBind_of, if_pos rfl, c2, mBind_of, if_pos (ixc hj (by omega)), if_neg ne]
      unfold f_X12_readStage_73
      rw [if_neg ne, l1]
      exact ⟨_, T', e, q, rfl, rfl, c3, c4, c5, l3, f1.tr c7.s, ((f2.tr c8.s).tr (rS.set (by omega) (by omega))).one.tr l2⟩
  · have s2 : ¬ (setI T 78 j 1).1 69 22 = 2 := by
      intro q
      rcases z4 with y | y | y | y | y
      · rw [q] at y
        exact absurd y.2 (by decide)
      · rw [q] at y
        exact absurd y.2.1 (by decide)
      · exact k2 y.1
      · rw [q] at y
        exact absurd y.2.1 (by decide)
      · rw [q] at y
        exact absurd y.2.1 (by decide)
    rw [if_neg k2, if_pos rfl, if_neg s2]
    rcases stage46_ag ce1 at1 ht hj g11 with ⟨S', T', k', d1, d2, d3, d4, d5, d6, d7, d8, d9⟩ | ⟨S', T', e, q, d1, d2, d3, d4, d5, d6, d7, d8⟩
    · left
      refine ⟨S', T', k', d1, d2, f1.tr d3, f2.one.tr d4, d5, ⟨d6, 1, by omega, by omega, ?_, ?_⟩, d7⟩
      · rw [d8, setI_same]
        rfl
      · rw [d9, setI_same]
        rfl
    · right
      exact ⟨S', T', e, q, d1, d2, d3, d4, d5, d6, f1.tr d7, f2.one.tr d8⟩
