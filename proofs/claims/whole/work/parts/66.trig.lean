/-! PURE: trigger: the plan -/
def cP (d : Nat) (S S' : mM) : Prop := (∀ b, b ≠ 6 → ¬ (d ≤ b ∧ b ≤ d + 7) → S'.1 b = S.1 b) ∧ S'.2 = S.2
theorem cP.rfl {d : Nat} {S : mM} : cP d S S := ⟨fun _ _ _ => Eq.refl _, Eq.refl _⟩
theorem cP.tr {d : Nat} {S S1 S2 : mM} (h : cP d S S1) (k : cP d S1 S2) : cP d S S2 := ⟨fun b q1 q2 => (k.1 b q1 q2).trans (h.1 b q1 q2), k.2.trans h.2⟩
theorem cS.p {d t : Nat} {S S' : mM} (h : cS t S S') (h1 : d ≤ t) (h2 : t ≤ d + 7) : cP d S S' := ⟨fun b q1 q2 => h.1 b q1 (by omega), h.2⟩
theorem c6.p {d : Nat} {S S' : mM} (h : c6 S S') : cP d S S' := ⟨fun b q1 _ => h.1 b q1, h.2⟩
def rP (T T' : mM) : Prop := (∀ b, b ≠ 69 → ¬ (78 ≤ b ∧ b ≤ 83) → T'.1 b = T.1 b) ∧ (∀ i, i ≠ 11 → ¬ (18 ≤ i ∧ i ≤ 23) → T'.1 69 i = T.1 69 i) ∧ (∀ b, b ≠ 69 → T'.2.1 b = T.2.1 b) ∧ T'.2.2 = T.2.2
theorem rP.rfl {T : mM} : rP T T := ⟨fun _ _ _ => Eq.refl _, fun _ _ _ => Eq.refl _, fun _ _ => Eq.refl _, Eq.refl _⟩
theorem rP.tr {T T1 T2 : mM} (h : rP T T1) (k : rP T1 T2) : rP T T2 := ⟨fun b q1 q2 => (k.1 b q1 q2).trans (h.1 b q1 q2), fun i q1 q2 => (k.2.1 i q1 q2).trans (h.2.1 i q1 q2), fun b q => (k.2.2.1 b q).trans (h.2.2.1 b q), k.2.2.2.trans h.2.2.2⟩
theorem rS1.p {j : Nat} {T T' : mM} (h : rS1 j T T') : rP T T' := ⟨h.1, h.2.1, h.2.2.1, h.2.2.2.1⟩
theorem nF.p {T T' : mM} (h : nF T T') : rP T T' := ⟨fun b q _ => h.1 b q, fun i _ q => h.2.1 i q, h.2.2.1, h.2.2.2⟩
theorem sT.fr {S S' T T' : mM} {t i : Nat} (h : sT S T t i) (hs : S'.1 t = S.1 t) (ht : ∀ b, 78 ≤ b → b ≤ 83 → T'.1 b i = T.1 b i) : sT S' T' t i := by
  unfold sT sD oD at h ⊢
  rw [hs, ht 78 (by omega) (by omega), ht 79 (by omega) (by omega), ht 80 (by omega) (by omega), ht 81 (by omega) (by omega), ht 82 (by omega) (by omega), ht 83 (by omega) (by omega)]
  exact h
theorem stage_broken {S : mM} {B : Nat → Int32} {n K k t : Nat} (h : CE S B n K) (h1 : S.1 6 1 = nI k) (hk : k ≤ K) (ht : 28 ≤ t) (k5 : kd B n k = 5) : ∃ S', f_X1_readStage t S = some (0, S') ∧ cS t S S' ∧ cFl S' 1 (tS B n k) := by
  have ce1 : CE (setI S t 1 1) B n K := (cS.set (t := t)).ce ht h
  have g1 : (setI S t 1 1).1 6 1 = nI k := by rw [setI_row _ _ _ _ (by omega)]; exact h1
  rcases take_eq (p := 1) ce1 g1 hk with z | ⟨-, S', c1, c2, c3⟩
  · rw [k5] at z
    exact absurd z.1 (by decide)
  · rw [if_pos k5] at c3
    refine ⟨S', ?_, cS.set.tr c2.s, c3⟩
    unfold f_X1_readStage f_X1_readStage_46
    simp only [bnd]
    rw [sees_eq ce1 g1 hk, mBind_of, if_pos (b01.mpr (show ¬ kd B n k = 2 by rw [k5]; decide)), seesW_eq ce1 g1 hk, mBind_of, if_pos (b01.mpr (fun z => by rw [k5] at z; exact absurd z.1 (by decide))), c1, mBind_of, if_pos rfl]
theorem rt0 (fu : Nat) (T : mM) : f_X12_readTrigger_16 (fu + 1) 0 T = some ((), T) := by
  unfold f_X12_readTrigger_16
  rw [if_pos rfl]
theorem dead52 {T : mM} {e q : Nat} {k16 : Int32 → mM → Option (Unit × mM)} (h : Dd T e q) (h1 : 1 ≤ e) (h5 : e ≤ 5) : f_X12_readTrigger_52 k16 T = k16 0 T := by
  have ne : ¬ T.1 69 18 = 0 := by rw [h.1]; exact nI_ne0 (by omega) (by omega)
  unfold f_X12_readTrigger_52 f_X12_readTrigger_80 f_X12_readTrigger_81
  rw [if_neg ne, if_neg ne, if_pos rfl]
theorem plan_loop {B : Nat → Int32} {n K d : Nat} (hd : d = 28 ∨ d = 36) : ∀ (m j fu fu' k : Nat) (S T : mM), j + m = 6 → m < fu → m + 1 < fu' → CE S B n K → At S T B n K k → T.1 69 11 = nI j → (∀ i, i < j → sT S T (d + 2 + i) i) →
    (∃ S' T' cnt, f_X1_readPlan_22 fu d (nI j) S = some (1, S') ∧ f_X12_readTrigger_16 fu' 1 T = some ((), T') ∧ 1 ≤ cnt ∧ cnt ≤ 6 ∧ S'.1 d 1 = nI cnt ∧ T'.1 69 11 = nI cnt ∧ T'.1 69 18 = 0 ∧ S'.1 6 3 = 0 ∧ (∀ i, i < cnt → sT S' T' (d + 2 + i) i) ∧ cP d S S' ∧ rP T T') ∨
    (∃ S' T' e q, f_X1_readPlan_22 fu d (nI j) S = some (0, S') ∧ f_X12_readTrigger_16 fu' 1 T = some ((), T') ∧ 1 ≤ e ∧ e ≤ 5 ∧ cFl S' e q ∧ Dd T' e q ∧ cP d S S' ∧ rP T T') := by
  intro m
  induction m with
  | zero =>
    intro j fu fu' k S T hm hf hf' h hA h11 _
    obtain ⟨fu, rfl⟩ : ∃ g, fu = g + 1 := ⟨fu - 1, by omega⟩
    obtain ⟨fu', rfl⟩ : ∃ g, fu' = g + 1 + 1 := ⟨fu' - 2, by omega⟩
    obtain rfl : j = 6 := by omega
    obtain ⟨⟨a1, a0⟩, a2, a3, a4⟩ := hA
    right
    obtain ⟨S', r1, r2, r3⟩ := refuse_eq (e := 4) h a1 a2
    have r1 : f_X1_refuse 4 S = some (0, S') := r1
    have hC : f_X1_readPlan_22 (fu + 1) d (nI 6) S = some (0, S') := by
      unfold f_X1_readPlan_22
      rw [if_pos (show (6 : Int32) ≤ nI 6 from Int32.le_refl _), r1, mBind_of, if_pos (Or.inl rfl)]
    by_cases k5 : kd B n k = 5
    · rw [if_pos k5] at r3
      rcases a3 with ⟨-, z1, z2⟩ | z
      case inr => exact absurd k5 z.1
      refine ⟨S', T, 1, _, hC, ?_, by omega, by omega, r3, ⟨z1, z2⟩, r2.p, rP.rfl⟩
      unfold f_X12_readTrigger_16
      rw [if_neg (by decide), if_neg (by rw [z1]; decide)]
    · rw [if_neg k5] at r3
      rcases a3 with z | ⟨-, z1, z2, -, -⟩
      case inl => exact absurd z.1 k5
      have dd : Dd (setI (setI T 69 18 4) 69 19 (nI (tS B n k))) 4 (tS B n k) := failed (e := 4)
      refine ⟨S', _, 4, _, hC, ?_, by omega, by omega, r3, dd, r2.p, ((nF.set (by omega)).tr (nF.set (by omega))).p⟩
      unfold f_X12_readTrigger_16
      rw [if_neg (by decide), if_pos z1, h11, if_pos (show nI 6 = (6 : Int32) from rfl), z2, fails_eq z1, mBind_of, dead52 dd (by omega) (by omega)]
      exact rt0 _ _
  | succ m ih =>
    intro j fu fu' k S T hm hf hf' h hA h11 hsT
    obtain ⟨fu, rfl⟩ : ∃ g, fu = g + 1 := ⟨fu - 1, by omega⟩
    obtain ⟨fu', rfl⟩ : ∃ g, fu' = g + 1 + 1 := ⟨fu' - 2, by omega⟩
    have hA' := hA
    obtain ⟨⟨a1, a0⟩, a2, a3, a4⟩ := hA'
    have hj : j < 6 := by omega
    have ht : 28 ≤ d + 2 + j := by omega
    have hC : ∀ R, (mBind (f_X1_readStage (d + 2 + j) S) fun r5 S6 => if r5 = 0 then some ((0 : Int32), S6) else mBind (f_X1_sees (0 : Int32) (setI S6 d 1 (nI (j + 1)))) fun r8 S9 => if r8 = 0 then mBind (f_X1_take (4 : Int32) S9) fun r10 S11 => if r10 = 0 then some ((0 : Int32), S11) else f_X1_readPlan_22 fu d (nI (j + 1)) S11 else some ((1 : Int32), S9)) = R → f_X1_readPlan_22 (fu + 1) d (nI j) S = R := fun R hR => by
      unfold f_X1_readPlan_22
      rw [if_neg (show ¬ (6 : Int32) ≤ nI j from nI_ge (b := 6) hj (by omega)), if_pos (ix hj (by omega)), nI_clamp (by omega), show d + 1 + 1 + j = d + 2 + j by omega]
      simp only [bnd, nI_1]
      exact hR
    by_cases k5 : kd B n k = 5
    · right
      rcases a3 with ⟨-, z1, z2⟩ | z
      case inr => exact absurd k5 z.1
      obtain ⟨S', c1, c2, c3⟩ := stage_broken (t := d + 2 + j) h a1 a2 ht k5
      refine ⟨S', T, 1, _, hC _ ?_, ?_, by omega, by omega, c3, ⟨z1, z2⟩, c2.p (by omega) (by omega), rP.rfl⟩
      · rw [c1, mBind_of, if_pos rfl]
      · unfold f_X12_readTrigger_16
        rw [if_neg (by decide), if_neg (by rw [z1]; decide)]
    · rcases a3 with z | ⟨-, z1, z2, -, -⟩
      case inl => exact absurd z.1 k5
      have hR : ∀ R, (mBind (f_X12_readStage T) fun _ S4 => f_X12_readTrigger_52 (f_X12_readTrigger_16 (fu' + 1)) S4) = R → f_X12_readTrigger_16 (fu' + 1 + 1) 1 T = R := fun R hR => by
        unfold f_X12_readTrigger_16
        rw [if_neg (by decide), if_pos z1, h11, if_neg (fun q => by rw [show (6 : Int32) = nI 6 from rfl, nI_eq (by omega) (by omega)] at q; omega)]
        exact hR
      rcases stage_ag (t := d + 2 + j) h hA ht hj h11 k5 with ⟨S1, T1, k', d1, d2, d3, d4, d5, d6, d7⟩ | ⟨S1, T1, e, q, d1, d2, d3, d4, d5, d6, d7, d8⟩
      · have ce1 : CE S1 B n K := d3.ce ht h
        have f7 : cP d S (setI S1 d 1 (nI (j + 1))) := (d3.p (by omega) (by omega)).tr ⟨fun b _ q => setI_row _ _ _ _ (by omega), rfl⟩
        have ce7 : CE (setI S1 d 1 (nI (j + 1))) B n K := ce1.fr (fun b _ _ => setI_row _ _ _ _ (by omega))
        have at7 : At (setI S1 d 1 (nI (j + 1))) T1 B n K k' := d5.c (by omega)
        have sT7 : ∀ i, i < j + 1 → sT (setI S1 d 1 (nI (j + 1))) T1 (d + 2 + i) i := fun i hi => by
          by_cases q : i = j
          · subst q
            exact d6.fr (setI_row _ _ _ _ (by omega)) (fun _ _ _ => rfl)
          · exact (hsT i (by omega)).fr (by rw [setI_row _ _ _ _ (by omega), d3.1 _ (by omega) (by omega)]) (fun b q1 q2 => d4.2.2.2.2 b i (by omega) q)
        have at7' := at7
        obtain ⟨⟨b1, b0⟩, b2, b3, b4⟩ := at7'
        by_cases k0 : kd B n k' = 0
        · left
          rcases b3 with y | ⟨-, y1, y2, -, y4⟩
          case inl =>
            have y1 : kd B n k' = 5 := y.1
            rw [k0] at y1
            exact absurd y1 (by decide)
          have s0 : T1.1 69 22 = 0 := by
            rcases y4 with y | y | y | y | y
            · exact y.2
            · have y1 : kd B n k' = 1 := y.1
              rw [k0] at y1
              exact absurd y1 (by decide)
            · have y1 : kd B n k' = 2 := y.1
              rw [k0] at y1
              exact absurd y1 (by decide)
            · have y1 : kd B n k' = 3 := y.1
              rw [k0] at y1
              exact absurd y1 (by decide)
            · have y1 : kd B n k' = 4 := y.1
              rw [k0] at y1
              exact absurd y1 (by decide)
          refine ⟨setI S1 d 1 (nI (j + 1)), T1, j + 1, hC _ ?_, hR _ ?_, by omega, by omega, setI_same _ _ _ _, d7, y1, b0, sT7, f7, d4.p⟩
          · rw [d1, mBind_of, if_neg (by decide), sees_eq ce7 b1 b2, mBind_of, if_pos k0, if_neg (by decide)]
          · rw [d2, mBind_of]
            unfold f_X12_readTrigger_52 f_X12_readTrigger_80 f_X12_readTrigger_81
            rw [if_pos y1, s0, if_neg (by decide), if_pos y1, if_pos rfl, if_pos rfl, if_pos rfl]
            exact rt0 _ _
        · rcases take_eq (p := 4) ce7 b1 b2 with ⟨w1, S8, w2, w3, w4, -, w5⟩ | ⟨w1, S8, w2, w3, w4⟩
          · have kk5 : ¬ kd B n k' = 5 := by rw [w1]; decide
            have hkK := kd_lt ce7 b2 k0
            have b3' := b3
            rcases b3 with y | ⟨-, y1, y2, -, y4⟩
            case inl => exact absurd y.1 kk5
            have s4 : T1.1 69 22 = 3 ∧ T1.1 69 23 = 59 := by
              rcases y4 with y | y | y | y | y
              · exact absurd y.1 k0
              · have y1 : kd B n k' = 1 := y.1
                rw [w1] at y1
                exact absurd y1 (by decide)
              · have y1 : kd B n k' = 2 := y.1
                rw [w1] at y1
                exact absurd y1 (by decide)
              · have y1 : kd B n k' = 3 := y.1
                rw [w1] at y1
                exact absurd y1 (by decide)
              · exact y.2
            obtain ⟨T2, t1, t2, t3⟩ := adv ce7 hkK b4 b3' kk5
            have at8 : At S8 T2 B n K (k' + 1) := ⟨⟨w4, by rw [w5]; exact b0⟩, by omega, t3, t2.bE b4⟩
            have hC2 : ∀ R, f_X1_readPlan_22 fu d (nI (j + 1)) S8 = R → f_X1_readPlan_22 (fu + 1) d (nI j) S = R := fun R z => hC _ (by
              rw [d1, mBind_of, if_neg (by decide), sees_eq ce7 b1 b2, mBind_of, if_neg k0, if_pos rfl, w2, mBind_of, if_neg (by decide)]
              exact z)
            have hR2 : ∀ R, f_X12_readTrigger_16 (fu' + 1) 1 T2 = R → f_X12_readTrigger_16 (fu' + 1 + 1) 1 T = R := fun R z => hR _ (by
              rw [d2, mBind_of]
              unfold f_X12_readTrigger_52 f_X12_readTrigger_81
              rw [if_pos y1, if_pos s4.1, if_pos s4.2, if_pos y1, if_neg (show ¬ (1 : Int32) = 0 by decide), if_neg (show ¬ (1 : Int32) = 0 by decide), t1, mBind_of]
              exact z)
            have f8 : cP d S S8 := f7.tr w3.p
            have f9 : rP T T2 := d4.p.tr t2.p
            rcases ih (j + 1) fu (fu' + 1) (k' + 1) S8 T2 (by omega) (by omega) (by omega) (w3.ce ce7) at8 (by rw [t2.2.1 11 (by omega)]; exact d7) (fun i hi => (sT7 i hi).fr (w3.1 _ (by omega)) (fun b q1 q2 => by rw [t2.1 b (by omega)])) with ⟨S', T', cnt, x1, x2, x3, x4, x5, x6, x7, x8, x9, x10, x11⟩ | ⟨S', T', e, q, x1, x2, x3, x4, x5, x6, x7, x8⟩
            · left
              exact ⟨S', T', cnt, hC2 _ x1, hR2 _ x2, x3, x4, x5, x6, x7, x8, x9, f8.tr x10, f9.tr x11⟩
            · right
              exact ⟨S', T', e, q, hC2 _ x1, hR2 _ x2, x3, x4, x5, x6, f8.tr x7, f9.tr x8⟩
          · right
            have hC2 : f_X1_readPlan_22 (fu + 1) d (nI j) S = some (0, S8) := hC _ (by
              rw [d1, mBind_of, if_neg (by decide), sees_eq ce7 b1 b2, mBind_of, if_neg k0, if_pos rfl, w2, mBind_of, if_pos rfl])
            by_cases kk5 : kd B n k' = 5
            · rw [if_pos kk5] at w4
              rcases b3 with ⟨-, y1, y2⟩ | y
              case inr => exact absurd kk5 y.1
              refine ⟨S8, T1, 1, _, hC2, hR _ ?_, by omega, by omega, w4, ⟨y1, y2⟩, f7.tr w3.p, d4.p⟩
              rw [d2, mBind_of, dead52 (e := 1) ⟨y1, y2⟩ (by omega) (by omega)]
              exact rt0 _ _
            · rw [if_neg kk5] at w4
              rcases b3 with y | ⟨-, y1, y2, -, y4⟩
              case inl => exact absurd y.1 kk5
              have dd : Dd (setI (setI T1 69 18 2) 69 19 (nI (tS B n k'))) 2 (tS B n k') := failed (e := 2)
              refine ⟨S8, _, 2, _, hC2, hR _ ?_, by omega, by omega, w4, dd, f7.tr w3.p, d4.p.tr ((nF.set (by omega)).tr (nF.set (by omega))).p⟩
              have s0 : ¬ T1.1 69 22 = 0 := by
                intro z
                rcases y4 with y | y | y | y | y
                · exact k0 y.1
                · rw [z] at y
                  exact absurd y.2.1 (by decide)
                · rw [z] at y
                  exact absurd y.2.1 (by decide)
                · rw [z] at y
                  exact absurd y.2.1 (by decide)
                · rw [z] at y
                  exact absurd y.2.1 (by decide)
              have h80 : f_X12_readTrigger_80 (f_X12_readTrigger_16 (fu' + 1)) T1 = some ((), setI (setI T1 69 18 2) 69 19 (nI (tS B n k'))) := by
                unfold f_X12_readTrigger_80 f_X12_readTrigger_81
                rw [if_pos y1, if_pos rfl, if_neg s0, y2, fails_eq y1, mBind_of, if_pos rfl]
                exact rt0 _ _
              rw [d2, mBind_of]
              unfold f_X12_readTrigger_52
              rw [if_pos y1, h80]
              by_cases q1 : T1.1 69 22 = 3
              · rw [if_pos q1]
                by_cases q2 : T1.1 69 23 = 59
                · exfalso
                  rcases y4 with y | y | y | y | y
                  · exact k0 y.1
                  · rw [q1] at y
                    exact absurd y.2.1 (by decide)
                  · rw [q1] at y
                    exact absurd y.2.1 (by decide)
                  · rw [q2] at y
                    exact absurd y.2.2 (by decide)
                  · exact w1 y.1
                · rw [if_neg q2]
              · rw [if_neg q1]
      · right
        refine ⟨S1, T1, e, q, hC _ ?_, hR _ ?_, d3, d4, d5, d6, d7.p (by omega) (by omega), d8.p⟩
        · rw [d1, mBind_of, if_pos rfl]
        · rw [d2, mBind_of, dead52 d6 d3 d4]
          exact rt0 _ _
/-! the reference copies its plan -/
theorem copy6 {cnt : Nat} (hc : cnt ≤ 6) : ∀ (m i fu : Nat) (T : mM), i + m = cnt → m < fu → T.1 69 4 = nI cnt →
    ∃ T', f_X12_trigger_39 fu (nI i) T = some (nI cnt, setI T' 69 25 0) ∧ (∀ b, ¬ (72 ≤ b ∧ b ≤ 77) → T'.1 b = T.1 b) ∧ (∀ b k, 72 ≤ b → b ≤ 77 → i ≤ k → k < cnt → T'.1 b k = T.1 (b + 6) k) ∧ (∀ b k, k < i → T'.1 b k = T.1 b k) ∧ T'.2 = T.2
  | 0, i, fu + 1, T, hm, _, h => by
    refine ⟨T, ?_, fun _ _ => rfl, fun b k _ _ q1 q2 => absurd q1 (by omega), fun _ _ _ => rfl, rfl⟩
    unfold f_X12_trigger_39
    rw [h, if_pos (nI_le (by omega) (by omega))]
    simp only [bnd]
    rw [setI_slot _ _ _ _ (by omega), h]
  | m + 1, i, fu + 1, T, hm, hf, h => by
    have i6 : 0 ≤ nI i ∧ (nI i).toNatClampNeg < 6 := ix (by omega) (by omega)
    have i6c : 0 ≤ nI i ∧ i < 6 := ixc (by omega) (by omega)
    have ci : (nI i).toNatClampNeg = i := nI_clamp (by omega)
    generalize hU : setI (setI (setI (setI (setI (setI T 72 i (T.1 78 i)) 73 i (T.1 79 i)) 74 i (T.1 80 i)) 75 i (T.1 81 i)) 76 i (T.1 82 i)) 77 i (T.1 83 i) = U
    have u1 : ∀ b, ¬ (72 ≤ b ∧ b ≤ 77) → U.1 b = T.1 b := fun b hb => by
      rw [← hU, setI_row _ _ _ _ (by omega), setI_row _ _ _ _ (by omega), setI_row _ _ _ _ (by omega), setI_row _ _ _ _ (by omega), setI_row _ _ _ _ (by omega), setI_row _ _ _ _ (by omega)]
    have u2 : ∀ b k, k ≠ i → U.1 b k = T.1 b k := fun b k hk => by
      rw [← hU, setI_slot _ _ _ _ hk, setI_slot _ _ _ _ hk, setI_slot _ _ _ _ hk, setI_slot _ _ _ _ hk, setI_slot _ _ _ _ hk, setI_slot _ _ _ _ hk]
    have u3 : ∀ b, 72 ≤ b → b ≤ 77 → U.1 b i = T.1 (b + 6) i := fun b q1 q2 => by
      rw [← hU]
      rcases (show b = 72 ∨ b = 73 ∨ b = 74 ∨ b = 75 ∨ b = 76 ∨ b = 77 by omega) with rfl | rfl | rfl | rfl | rfl | rfl <;> simp [setI_1]
    have u4 : U.2 = T.2 := by rw [← hU]; rfl
    obtain ⟨T', k1, k2, k3, k4, k5⟩ := copy6 hc m (i + 1) fu U (by omega) (by omega) (by rw [u1 69 (by omega)]; exact h)
    refine ⟨T', ?_, fun b hb => by rw [k2 b hb, u1 b hb], fun b k q1 q2 q3 q4 => ?_, fun b k hk => by rw [k4 b k (by omega), u2 b k (by omega)], by rw [k5, u4]⟩
    · have e1 : (setI T 72 i (T.1 78 i)).1 79 i = T.1 79 i := by rw [setI_row _ _ _ _ (by omega)]
      have e2 : (setI (setI T 72 i (T.1 78 i)) 73 i (T.1 79 i)).1 80 i = T.1 80 i := by rw [setI_row _ _ _ _ (by omega), setI_row _ _ _ _ (by omega)]
      have e3 : (setI (setI (setI T 72 i (T.1 78 i)) 73 i (T.1 79 i)) 74 i (T.1 80 i)).1 81 i = T.1 81 i := by rw [setI_row _ _ _ _ (by omega), setI_row _ _ _ _ (by omega), setI_row _ _ _ _ (by omega)]
      have e4 : (setI (setI (setI (setI T 72 i (T.1 78 i)) 73 i (T.1 79 i)) 74 i (T.1 80 i)) 75 i (T.1 81 i)).1 82 i = T.1 82 i := by rw [setI_row _ _ _ _ (by omega), setI_row _ _ _ _ (by omega), setI_row _ _ _ _ (by omega), setI_row _ _ _ _ (by omega)]
      have e5 : (setI (setI (setI (setI (setI T 72 i (T.1 78 i)) 73 i (T.1 79 i)) 74 i (T.1 80 i)) 75 i (T.1 81 i)) 76 i (T.1 82 i)).1 83 i = T.1 83 i := by rw [setI_row _ _ _ _ (by omega), setI_row _ _ _ _ (by omega), setI_row _ _ _ _ (by omega), setI_row _ _ _ _ (by omega), setI_row _ _ _ _ (by omega)]
      unfold f_X12_trigger_39
      rw [h, if_neg (nI_ge (by omega) (by omega))]
      simp only [if_pos i6, if_pos i6c, ci, bnd, e1, e2, e3, e4, e5, nI_1, hU]
      exact k1
    · by_cases e : k = i
      · subst e
        rw [k4 b k (by omega)]
        exact u3 b q1 q2
      · rw [k3 b k q1 q2 (by omega) q4, u2 _ _ e]
