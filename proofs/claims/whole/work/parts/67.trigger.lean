/-! PURE: trigger agrees -/
theorem iEn.fr2 {m : Nat} {S S' : mM} (h : iEn m S) (h7 : S'.1 7 = S.1 7) (h8 : S'.1 8 = S.1 8) (h9 : S'.1 9 = S.1 9) (h71 : ∀ a, 71 ≤ a → a ≤ 77 → S'.1 a = S.1 a) (h69 : ∀ k, slEn k → S'.1 69 k = S.1 69 k) (hP : S'.2.2 = S.2.2)
    (hp : ∀ b, 28 ≤ b → b ≤ 43 → ¬ (S.2.2 7 3 ≤ b ∧ b ≤ S.2.2 7 3 + 7) → S'.1 b = S.1 b) : iEn m S' := by
  obtain ⟨p, N, cnt, h1, h2, h3, h4, h5, h6, k7, k8, k9, h10, h11, h12, h13, h14, h15, h16, h17, h18, h19, h20, h21, h22⟩ := h
  have hpd : ∀ i, i ≤ 7 → S'.1 (p + i) = S.1 (p + i) := fun i hi => hp _ (by rcases h1 with q | q <;> omega) (by rcases h1 with q | q <;> omega) (by rcases h1 with q | q <;> omega)
  have ep : S'.1 p = S.1 p := hpd 0 (by omega)
  have es : ∀ i, i < cnt → S'.1 (p + 2 + i) = S.1 (p + 2 + i) := fun i hi => by rw [show p + 2 + i = p + (2 + i) by omega]; exact hpd _ (by omega)
  refine ⟨p, N, cnt, by rw [hP]; exact h1, by rw [hP]; exact h2, h3, by rw [ep]; exact h4, by rw [h69 4 (by unfold slEn; omega)]; exact h5, fun i hi => (h6 i hi).frame (es i hi) (fun a ha => h71 a (by omega) ha.2), k7, by rw [h8]; exact k8, by rw [h69 3 (by unfold slEn; omega)]; exact k9, by rw [h9, h71 71 (by omega) (by omega)]; exact h10, by rw [h7, h69 26 (by unfold slEn; omega)]; exact h11, by rw [h7, h69 27 (by unfold slEn; omega)]; exact h12, by rw [h7, h69 25 (by unfold slEn; omega)]; exact h13, by rw [h7, h69 28 (by unfold slEn; omega)]; exact h14, by rw [h7, h69 29 (by unfold slEn; omega)]; exact h15, by rw [h7, h69 30 (by unfold slEn; omega)]; exact h16, by rw [h7, h69 31 (by unfold slEn; omega)]; exact h17, by rw [h7, h69 32 (by unfold slEn; omega)]; exact h18, by rw [h7, h69 33 (by unfold slEn; omega)]; exact h19, ?_, by rw [h7]; exact h21, by rw [h7]; exact h22⟩
  rw [h7]
  intro hs
  obtain ⟨f, g, hh, w, q1, q2, q3, q4, q5, q6, q7, q8, q9, q10, q11, q12, q13⟩ := h20 hs
  exact ⟨f, g, hh, w, q1, q2, q3, q4, q5, by rw [es g q4]; exact q6, q7, q8, q9, q10, q11, by rw [es g q4]; exact q12, fun i hi => (q13 i hi).frame (es i hi) (h71 71 (by omega) (by omega))⟩
/-- what is left as it was by both, outside tape, reader, plans and the reference's numbers -/
theorem Inv.trig {c : Nat} {S F : mM} (h : Inv c S) (hr : ∀ b, (b = 0 ∨ (10 ≤ b ∧ b ≤ 27) ∨ (44 ≤ b ∧ b ≤ 68) ∨ (84 ≤ b ∧ b ≤ 97)) → F.1 b = S.1 b) (h69 : ∀ j, j = 34 ∨ j = 42 ∨ j = 48 ∨ j = 51 → F.1 69 j = S.1 69 j) (hJ : ∀ b, b ≠ 69 → F.2.1 b = S.2.1 b)
    (t1 : F.1 1 1 = 0) (t2 : F.1 69 1 = 0) (hft : F.1 6 3 = F.1 69 18) (hE : iEn (64 * (c + 1)) F) (hst : F.1 7 6 = S.1 7 6 ∨ F.1 7 6 = 0) : Inv (c + 1) F := by
  refine ⟨⟨0, by omega, t1, t2, fun k hk => absurd hk (by omega)⟩, hft, hE, ?_, h.2.2.2.2.1.frame (fun a ha => ?_), h.2.2.2.2.2.1.frame (fun a ha => ?_) (fun a ha => ?_), ?_, h.2.2.2.2.2.2.2.frame (fun a ha => ?_) (h69 48 (by omega)) (h69 51 (by omega))⟩
  · obtain ⟨n, q1, q2, q3, q4, q5⟩ := h.2.2.2.1
    refine ⟨n, q1, by rw [hr 10 (by omega)]; exact q2, by rw [h69 34 (by omega)]; exact q3, fun z => ?_, fun k hk => ?_⟩
    · rcases hst with y | y
      · rw [y] at z
        exact q4 z
      · rw [y] at z
        rcases z with z | z
        · exact absurd z (by decide)
        · exact absurd z (by decide)
    · rw [hr (12 + 2 * k) (by omega), hr (13 + 2 * k) (by omega), hr 84 (by omega), hr 85 (by omega), hr 86 (by omega), hr 87 (by omega)]
      exact q5 k hk
  · unfold rwSh at ha
    exact hr a (by omega)
  · unfold rwRw at ha
    exact hr a (by omega)
  · unfold rwRw at ha
    exact hJ a (by omega)
  · rw [hr 0 (by omega), h69 42 (by omega)]
    exact h.2.2.2.2.2.2.1
  · unfold rwWr at ha
    exact hr a (by omega)
theorem ag_trigger (c : Nat) : Ag c f_X11_trigger f_X12_trigger := fun hc S h => by
  obtain ⟨n, hn, tp1, tp2, tp3⟩ := h.1
  have hE0 := h.2.2.1
  obtain ⟨p, N, cnt0, e1, e2, e3, e4, e5, e6, e7, e8, e9, e10, e11, e12, e13, e14, e15, e16, e17, e18, e19, e20, e21, e22⟩ := h.2.2.1
  obtain ⟨d, hd3, hd⟩ : ∃ d, S.2.2 7 3 = d ∧ ((p = 28 ∧ d = 36) ∨ (p = 36 ∧ d = 28)) := ⟨_, rfl, e1⟩
  have hd' : d = 28 ∨ d = 36 := by omega
  have hp' : p = 28 ∨ p = 36 := by omega
  -- the class's split
  have hB0 : (setI S 1 5 0).1 2 = S.1 2 := setI_row _ _ _ _ (by omega)
  obtain ⟨S2, K, s1, s2, s3, s4, s5, s6, s7, s8⟩ := split_loop (B := S.1 2) hn n 0 mFuel 0 (setI S 1 5 0) (by omega) (by omega) (by omega) (by unfold mFuel; omega) ⟨by rw [setI_slot _ _ _ _ (by omega)]; exact tp1, hB0, setI_same _ _ _ _, fun k hk => absurd hk (by omega)⟩ (fun k hk => absurd hk (by omega)) rfl
  have s1 : f_X9_split S = some ((), S2) := s1
  have s2d : S2.2.2 7 3 = d := by rw [s8]; exact hd3
  have s6' : ∀ b, b ≠ 1 → b ≠ 3 → b ≠ 4 → b ≠ 5 → S2.1 b = S.1 b := fun b q1 q2 q3 q4 => by rw [s6 b q1 q2 q3 q4, setI_row _ _ _ _ q1]
  have s71 : S2.1 1 1 = nI n := by rw [s7 1 (by omega), setI_slot _ _ _ _ (by omega)]; exact tp1
  -- the class's start of reading
  generalize hS4 : setI (setI (setI (setI S2 6 3 0) 6 4 0) 6 1 0) d 1 0 = S4
  have f4 : cP d S2 S4 := by
    rw [← hS4]
    exact ⟨fun b q1 q2 => by rw [setI_row _ _ _ _ (by omega), setI_row _ _ _ _ q1, setI_row _ _ _ _ q1, setI_row _ _ _ _ q1], rfl⟩
  have ce4 : CE S4 (S.1 2) n K := CE.fr (S := S2) ⟨s3, s2, hn, s4, s5⟩ (fun b q1 q2 => f4.1 b (by omega) (by omega))
  have g61 : S4.1 6 1 = nI 0 := by rw [← hS4, setI_row _ _ _ _ (by omega), setI_same]; rfl
  have g63 : S4.1 6 3 = 0 := by rw [← hS4, setI_row _ _ _ _ (by omega), setI_slot _ _ _ _ (by omega), setI_slot _ _ _ _ (by omega), setI_same]
  have hrp : ∀ R, f_X1_readPlan_22 mFuel d (nI 0) S4 = R → f_X1_readPlan d S2 = R := fun R z => by
    unfold f_X1_readPlan
    simp only [bnd]
    rw [hS4]
    exact z
  -- both read, from any memory that holds the reference's cells
  have key : ∀ T : mM, (∀ b, 69 ≤ b → T.1 b = S.1 b) →
      (∃ S' T' cnt, f_X1_readPlan d S2 = some (1, S') ∧ f_X12_readTrigger (setI T 69 18 0) = some ((), T') ∧ 1 ≤ cnt ∧ cnt ≤ 6 ∧ S'.1 d 1 = nI cnt ∧ T'.1 69 11 = nI cnt ∧ T'.1 69 18 = 0 ∧ S'.1 6 3 = 0 ∧ (∀ i, i < cnt → sT S' T' (d + 2 + i) i) ∧ cP d S2 S' ∧ rP T T') ∨
      (∃ S' T' e q, f_X1_readPlan d S2 = some (0, S') ∧ f_X12_readTrigger (setI T 69 18 0) = some ((), T') ∧ 1 ≤ e ∧ e ≤ 5 ∧ cFl S' e q ∧ Dd T' e q ∧ cP d S2 S' ∧ rP T T') := fun T hT => by
    generalize hT2 : setI (setI (setI T 69 18 0) 69 20 0) 69 11 0 = T2
    have r2 : rP T T2 := by
      rw [← hT2]
      exact ⟨fun b q1 _ => by rw [setI_row _ _ _ _ q1, setI_row _ _ _ _ q1, setI_row _ _ _ _ q1], fun i q1 q2 => by rw [setI_slot _ _ _ _ q1, setI_slot _ _ _ _ (by omega), setI_slot _ _ _ _ (by omega)], fun _ _ => rfl, rfl⟩
    have be2 : bE T2 (S.1 2) n := ⟨hn, by rw [r2.2.1 1 (by omega) (by omega), hT 69 (by omega)]; exact tp2, fun k hk => by rw [r2.1 70 (by omega) (by omega), hT 70 (by omega)]; exact tp3 k hk⟩
    have g20 : T2.1 69 20 = nI 0 := by rw [← hT2, setI_slot _ _ _ _ (by omega), setI_same]; rfl
    have g18 : T2.1 69 18 = 0 := by rw [← hT2, setI_slot _ _ _ _ (by omega), setI_slot _ _ _ _ (by omega), setI_same]
    have g11 : T2.1 69 11 = nI 0 := by rw [← hT2, setI_same]; rfl
    obtain ⟨T3, t1, t2, t3⟩ := next_ok be2 g20 (by omega) g18
    have at0 : At S4 T3 (S.1 2) n K 0 := ⟨⟨g61, g63⟩, by omega, t3, t2.bE be2⟩
    have hrt : ∀ R, f_X12_readTrigger_16 mFuel 1 T3 = R → f_X12_readTrigger (setI T 69 18 0) = R := fun R z => by
      unfold f_X12_readTrigger
      simp only [bnd]
      rw [hT2, t1, mBind_of]
      exact z
    rcases plan_loop (d := d) hd' 6 0 mFuel mFuel 0 S4 T3 (by omega) (by unfold mFuel; omega) (by unfold mFuel; omega) ce4 at0 (by rw [t2.2.1 11 (by omega)]; exact g11) (fun i hi => absurd hi (by omega)) with ⟨S', T', cnt, x1, x2, x3, x4, x5, x6, x7, x8, x9, x10, x11⟩ | ⟨S', T', e, q, x1, x2, x3, x4, x5, x6, x7, x8⟩
    · left
      exact ⟨S', T', cnt, hrp _ x1, hrt _ x2, x3, x4, x5, x6, x7, x8, x9, f4.tr x10, (r2.tr t2.p).tr x11⟩
    · right
      exact ⟨S', T', e, q, hrp _ x1, hrt _ x2, x3, x4, x5, x6, f4.tr x7, (r2.tr t2.p).tr x8⟩
  -- the class's head
  have hC : ∀ r S6, f_X1_readPlan d S2 = some (r, S6) → S6.1 1 1 = nI n → f_X11_trigger S = (if r = 0 then some (((-10 : Int32) - ((setI S6 1 1 0).1 6 4)), setI S6 1 1 0) else mBind (f_X4_takeDraft (setI S6 1 1 0)) fun r9 S10 => if mKind (S10.2.2 7 2) = 0 then some ((S10.1 (S10.2.2 7 2) 1), S10) else none) := fun r S6 z z1 => by
    unfold f_X11_trigger f_X9_cutTo
    rw [s1, mBind_of, s2d, if_pos (kplan hd')]
    simp only [bnd]
    rw [z, mBind_of, isIn_eq, mBind_of, z1, if_pos (show (0 : Int32) ≤ 0 ∧ 0 ≤ nI n from ⟨Int32.le_refl _, nI_pos' (by omega)⟩), if_neg (by decide), mBind_of]
  rcases key S (fun _ _ => rfl) with ⟨S6, -, cnt, x1, -, -, -, -, -, -, -, -, x10, -⟩ | ⟨S6, -, e, q, x1, -, -, -, -, -, x10, -⟩
  · -- a plan
    have x11 : S6.1 1 1 = nI n := by rw [x10.1 1 (by omega) (by omega)]; exact s71
    have x22 : S6.2 = S.2 := by rw [x10.2, s8, setI_2]
    generalize hS10 : setI (setP (setP (setI S6 1 1 0) 7 2 d) 7 3 p) 7 6 0 = S10
    have y1 : ∀ b, b ≠ 1 → b ≠ 7 → S10.1 b = S6.1 b := fun b q1 q2 => by rw [← hS10, setI_row _ _ _ _ q2, setP_1, setP_1, setI_row _ _ _ _ q1]
    have y7 : ∀ j, j ≠ 6 → S10.1 7 j = S6.1 7 j := fun j q => by rw [← hS10, setI_slot _ _ _ _ q, setP_1, setP_1, setI_row _ _ _ _ (by omega)]
    have y76 : S10.1 7 6 = 0 := by rw [← hS10, setI_same]
    have y11 : S10.1 1 1 = 0 := by rw [← hS10, setI_row _ _ _ _ (by omega), setP_1, setP_1, setI_same]
    have yP2 : S10.2.2 7 2 = d := by rw [← hS10, setI_2, setP_3, if_neg (by omega), setP_3, if_pos ⟨rfl, rfl⟩]
    have yP3 : S10.2.2 7 3 = p := by rw [← hS10, setI_2, setP_3, if_pos ⟨rfl, rfl⟩]
    have yJ : S10.2.1 = S.2.1 := by rw [← hS10, setI_2, setP_2, setP_2, setI_2, x22]
    have hhi : ∀ b, 69 ≤ b → S10.1 b = S.1 b := fun b hb => by rw [y1 b (by omega) (by omega), x10.1 b (by omega) (by omega), s6' b (by omega) (by omega) (by omega) (by omega)]
    have hcl : f_X11_trigger S = some (S10.1 d 1, S10) := by
      rw [hC 1 S6 x1 x11, if_neg (by decide)]
      unfold f_X4_takeDraft
      rw [show (setI S6 1 1 0).2.2 7 2 = p by rw [setI_2, x22]; exact e2, show (setI S6 1 1 0).2.2 7 3 = d by rw [setI_2, x22]; exact hd3, if_pos (kplan hp')]
      simp only [bnd]
      rw [if_pos (kplan hd'), hS10, mBind_of, yP2, if_pos (kplan hd')]
    rcases key S10 hhi with ⟨S6', T', cnt', z1, z2, z3, z4, z5, z6, z7, z8, z9, z10, z11⟩ | ⟨S6', T', e, q, z1, -⟩
    case inr =>
      rw [x1] at z1
      exact absurd (congrArg Prod.fst (Option.some.inj z1)) (show ¬ (1 : Int32) = 0 by decide)
    have eS : S6' = S6 := by
      rw [x1] at z1
      exact (congrArg Prod.snd (Option.some.inj z1)).symm
    subst eS
    -- the reference's end
    generalize hT5 : setI (setI T' 69 1 0) 69 4 (nI cnt') = T5
    obtain ⟨T6, u1, u2, u3, u4, u5⟩ := copy6 z4 cnt' 0 mFuel T5 (by omega) (by unfold mFuel; omega) (by rw [← hT5, setI_same])
    have u1 : f_X12_trigger_39 mFuel 0 T5 = some (nI cnt', setI T6 69 25 0) := u1
    generalize hF : setI T6 69 25 0 = F at u1
    have v1 : ∀ b, b ≠ 69 → ¬ (72 ≤ b ∧ b ≤ 83) → F.1 b = S10.1 b := fun b q1 q2 => by rw [← hF, setI_row _ _ _ _ q1, u2 b (by omega), ← hT5, setI_row _ _ _ _ q1, setI_row _ _ _ _ q1, z11.1 b q1 (by omega)]
    have v69 : ∀ j, j ≠ 25 → j ≠ 4 → j ≠ 1 → F.1 69 j = T'.1 69 j := fun j q1 q2 q3 => by rw [← hF, setI_slot _ _ _ _ q1, u2 69 (by omega), ← hT5, setI_slot _ _ _ _ q2, setI_slot _ _ _ _ q3]
    have v69' : ∀ j, j ≠ 25 → j ≠ 4 → j ≠ 1 → j ≠ 11 → ¬ (18 ≤ j ∧ j ≤ 23) → F.1 69 j = S.1 69 j := fun j q1 q2 q3 q4 q5 => by rw [v69 j q1 q2 q3, z11.2.1 j q4 q5, hhi 69 (by omega)]
    have v25 : F.1 69 25 = 0 := by rw [← hF, setI_same]
    have v4 : F.1 69 4 = nI cnt' := by rw [← hF, setI_slot _ _ _ _ (by omega), u2 69 (by omega), ← hT5, setI_same]
    have v1' : F.1 69 1 = 0 := by rw [← hF, setI_slot _ _ _ _ (by omega), u2 69 (by omega), ← hT5, setI_slot _ _ _ _ (by omega), setI_same]
    have vc : ∀ b k, 72 ≤ b → b ≤ 77 → k < cnt' → F.1 b k = T'.1 (b + 6) k := fun b k q1 q2 q3 => by rw [← hF, setI_row _ _ _ _ (by omega), u3 b k q1 q2 (by omega) q3, ← hT5, setI_row _ _ _ _ (by omega), setI_row _ _ _ _ (by omega)]
    have v2 : F.2.2 = S10.2.2 := by rw [← hF, setI_2, u5, ← hT5, setI_2, setI_2, z11.2.2.2]
    have vJ : ∀ b, b ≠ 69 → F.2.1 b = S.2.1 b := fun b q => by rw [← hF, setI_2, u5, ← hT5, setI_2, setI_2, z11.2.2.1 b q, yJ]
    have low : ∀ b, b < 69 → F.1 b = S10.1 b := fun b hb => v1 b (by omega) (by omega)
    have same : ∀ b, b ≠ 1 → b ≠ 3 → b ≠ 4 → b ≠ 5 → b ≠ 6 → b ≠ 7 → ¬ (d ≤ b ∧ b ≤ d + 7) → b ≠ 69 → ¬ (72 ≤ b ∧ b ≤ 83) → F.1 b = S.1 b := fun b q1 q3 q4 q5 q6 q7 q8 q9 q10 => by rw [v1 b q9 q10, y1 b q1 q7, x10.1 b q6 q8, s6' b q1 q3 q4 q5]
    have F7 : ∀ j, j ≠ 6 → F.1 7 j = S.1 7 j := fun j q => by rw [low 7 (by omega), y7 j q, x10.1 7 (by omega) (by omega), s6' 7 (by omega) (by omega) (by omega) (by omega)]
    have F76 : F.1 7 6 = 0 := by rw [low 7 (by omega)]; exact y76
    have Fd : ∀ i, i ≤ 7 → F.1 (d + i) = S6'.1 (d + i) := fun i hi => by rw [low _ (by omega), y1 _ (by omega) (by omega)]
    refine ⟨nI cnt', S10, F, ?_, ?_, h.trig (fun b hb => same b (by omega) (by omega) (by omega) (by omega) (by omega) (by omega) (by omega) (by omega) (by omega)) (fun j hj => v69' j (by omega) (by omega) (by omega) (by omega) (by omega)) vJ ?_ v1' ?_ ?_ (Or.inr F76)⟩
    · rw [hcl, y1 d (by omega) (by omega), z5]
    · unfold f_X12_trigger
      simp only [bnd]
      rw [z2, mBind_of, setI_slot _ _ _ _ (show 18 ≠ 1 by omega), z7, if_pos (Int32.le_refl _), setI_slot _ _ _ _ (show 11 ≠ 1 by omega), z6, hT5]
      exact u1
    · rw [low 1 (by omega)]
      exact y11
    · rw [low 6 (by omega), y1 6 (by omega) (by omega), z8, v69 18 (by omega) (by omega) (by omega), z7]
    · refine ⟨d, N, cnt', ?_, ?_, z4, ?_, v4, fun i hi => ?_, by omega, ?_, ?_, fun k q1 q2 => ?_, ?_, ?_, ⟨0, by omega, F76, v25⟩, ?_, ?_, ?_, ?_, ?_, ?_, fun z => ?_, fun z => ?_, ?_⟩
      · rw [v2, yP3]
        omega
      · rw [v2]
        exact yP2
      · rw [show d = d + 0 by omega, Fd 0 (by omega)]
        exact z5
      · obtain ⟨⟨ev, x, w1, w2, w3, w4, w5, w6, w7, w8, w9, w10, w11, w12, w13⟩, tm, m1, m2, m3, m4⟩ := z9 i hi
        unfold iSt
        rw [show d + 2 + i = d + (2 + i) by omega, Fd (2 + i) (by omega), show d + (2 + i) = d + 2 + i by omega, vc 73 i (by omega) (by omega) hi, vc 72 i (by omega) (by omega) hi, vc 77 i (by omega) (by omega) hi, vc 74 i (by omega) (by omega) hi, vc 75 i (by omega) (by omega) hi, vc 76 i (by omega) (by omega) hi]
        have ne : ∀ k : Nat, k < 100 → nI ev = nI k → ev = k := fun k hk z => (nI_eq (by omega) (by omega)).mp z
        refine ⟨⟨ev, w1, w2⟩, by rw [w2]; exact w3, ⟨tm, m1, m2, m3⟩, by rw [m3]; exact m4, ⟨x, w4, w5⟩, by rw [w5]; exact w6, w7, w8, w9, w10, fun z => w11 (ne 7 (by omega) (by rw [← w2]; exact z)), fun z => w12 ?_, fun z => w13 ?_⟩
        · rcases z with z | z
          · exact Or.inl (ne 2 (by omega) (by rw [← w2]; exact z))
          · exact Or.inr (ne 3 (by omega) (by rw [← w2]; exact z))
        · rcases z with z | z | z
          · exact Or.inl (ne 4 (by omega) (by rw [← w2]; exact z))
          · exact Or.inr (Or.inl (ne 5 (by omega) (by rw [← w2]; exact z)))
          · exact Or.inr (Or.inr (ne 6 (by omega) (by rw [← w2]; exact z)))
      · rw [same 8 (by omega) (by omega) (by omega) (by omega) (by omega) (by omega) (by omega) (by omega) (by omega)]
        exact e8
      · rw [v69' 3 (by omega) (by omega) (by omega) (by omega) (by omega)]
        exact e9
      · rw [same 9 (by omega) (by omega) (by omega) (by omega) (by omega) (by omega) (by omega) (by omega) (by omega), same 71 (by omega) (by omega) (by omega) (by omega) (by omega) (by omega) (by omega) (by omega) (by omega)]
        exact e10 k q1 q2
      · rw [F7 4 (by omega), v69' 26 (by omega) (by omega) (by omega) (by omega) (by omega)]
        exact e11
      · rw [F7 5 (by omega), v69' 27 (by omega) (by omega) (by omega) (by omega) (by omega)]
        exact e12
      · rw [F7 7 (by omega), v69' 28 (by omega) (by omega) (by omega) (by omega) (by omega)]
        exact e14
      · rw [F7 8 (by omega), v69' 29 (by omega) (by omega) (by omega) (by omega) (by omega)]
        exact e15
      · rw [F7 9 (by omega), v69' 30 (by omega) (by omega) (by omega) (by omega) (by omega)]
        exact e16
      · rw [F7 10 (by omega), v69' 31 (by omega) (by omega) (by omega) (by omega) (by omega)]
        exact e17
      · rw [F7 11 (by omega), v69' 32 (by omega) (by omega) (by omega) (by omega) (by omega)]
        exact e18
      · rw [F7 12 (by omega), v69' 33 (by omega) (by omega) (by omega) (by omega) (by omega)]
        exact e19
      · rw [F76] at z
        exact absurd z (by decide)
      · rw [F76] at z
        exact absurd z (by decide)
      · obtain ⟨t, t1, t2⟩ := e22
        exact ⟨t, by omega, by rw [F7 11 (by omega)]; exact t2⟩
  · -- a fault
    have x11 : S6.1 1 1 = nI n := by rw [x10.1 1 (by omega) (by omega)]; exact s71
    have x22 : S6.2 = S.2 := by rw [x10.2, s8, setI_2]
    generalize hS8 : setI S6 1 1 0 = S8
    have y1 : ∀ b, b ≠ 1 → S8.1 b = S6.1 b := fun b q => by rw [← hS8, setI_row _ _ _ _ q]
    have y11 : S8.1 1 1 = 0 := by rw [← hS8, setI_same]
    have y2 : S8.2 = S.2 := by rw [← hS8, setI_2, x22]
    have hhi : ∀ b, 69 ≤ b → S8.1 b = S.1 b := fun b hb => by rw [y1 b (by omega), x10.1 b (by omega) (by omega), s6' b (by omega) (by omega) (by omega) (by omega)]
    rcases key S8 hhi with ⟨S6', T', cnt', z1, -⟩ | ⟨S6', T', e', q', z1, z2, z3, z4, z5, z6, z7, z8⟩
    case inl =>
      rw [x1] at z1
      exact absurd (congrArg Prod.fst (Option.some.inj z1)) (show ¬ (0 : Int32) = 1 by decide)
    have eS : S6' = S6 := by
      rw [x1] at z1
      exact (congrArg Prod.snd (Option.some.inj z1)).symm
    subst eS
    generalize hF : setI T' 69 1 0 = F
    have v1 : ∀ b, b ≠ 69 → ¬ (78 ≤ b ∧ b ≤ 83) → F.1 b = S8.1 b := fun b q1 q2 => by rw [← hF, setI_row _ _ _ _ q1, z8.1 b q1 q2]
    have v69 : ∀ j, j ≠ 1 → j ≠ 11 → ¬ (18 ≤ j ∧ j ≤ 23) → F.1 69 j = S.1 69 j := fun j q1 q2 q3 => by rw [← hF, setI_slot _ _ _ _ q1, z8.2.1 j q2 q3, hhi 69 (by omega)]
    have same : ∀ b, b ≠ 1 → b ≠ 3 → b ≠ 4 → b ≠ 5 → b ≠ 6 → ¬ (d ≤ b ∧ b ≤ d + 7) → b ≠ 69 → ¬ (78 ≤ b ∧ b ≤ 83) → F.1 b = S.1 b := fun b q1 q3 q4 q5 q6 q8 q9 q10 => by rw [v1 b q9 q10, y1 b q1, x10.1 b q6 q8, s6' b q1 q3 q4 q5]
    refine ⟨(-10 : Int32) - nI q', S8, F, ?_, ?_, h.trig (fun b hb => same b (by omega) (by omega) (by omega) (by omega) (by omega) (by omega) (by omega) (by omega)) (fun j hj => v69 j (by omega) (by omega) (by omega)) (fun b q => ?_) ?_ ?_ ?_ ?_ (Or.inl ?_)⟩
    · rw [hC 0 S6' x1 x11, if_pos rfl, hS8, y1 6 (by omega), z5.2]
    · unfold f_X12_trigger
      simp only [bnd]
      rw [z2, mBind_of, setI_slot _ _ _ _ (show 18 ≠ 1 by omega), setI_slot _ _ _ _ (show 19 ≠ 1 by omega), z6.1, z6.2, if_neg (nI_nle (by omega) (by omega)), hF]
    · rw [← hF, setI_2, z8.2.2.1 b q, y2]
    · rw [v1 1 (by omega) (by omega)]
      exact y11
    · rw [← hF, setI_same]
    · rw [v1 6 (by omega) (by omega), y1 6 (by omega), z5.1, ← hF, setI_slot _ _ _ _ (by omega), z6.1]
    · refine (hE0.mono (by omega)).fr2 (same 7 (by omega) (by omega) (by omega) (by omega) (by omega) (by omega) (by omega) (by omega)) (same 8 (by omega) (by omega) (by omega) (by omega) (by omega) (by omega) (by omega) (by omega)) (same 9 (by omega) (by omega) (by omega) (by omega) (by omega) (by omega) (by omega) (by omega)) (fun a q1 q2 => same a (by omega) (by omega) (by omega) (by omega) (by omega) (by omega) (by omega) (by omega)) (fun k hk => by unfold slEn at hk; exact v69 k (by omega) (by omega) (by omega)) ?_ (fun b q1 q2 q3 => ?_)
      · rw [← hF, setI_2, z8.2.2.2, y2]
      · rw [hd3] at q3
        exact same b (by omega) (by omega) (by omega) (by omega) (by omega) q3 (by omega) (by omega)
    · rw [same 7 (by omega) (by omega) (by omega) (by omega) (by omega) (by omega) (by omega) (by omega)]
