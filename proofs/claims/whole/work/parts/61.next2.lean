/-! PURE: trigger: the reference's next token agrees with the pure one -/
def dl (B : Nat → Int32) (ff : Nat) : Int32 → Nat → Nat → Int32
  | X, _, 0 => X
  | X, i, m + 1 => dl B ff (if i - ff < 3 then (10 : Int32) * X + B i - 48 else X) (i + 1) m
theorem dl_dv {B : Nat → Int32} {ff : Nat} : ∀ (m i : Nat) (X : Int32), ff ≤ i → i + m ≤ ff + 3 → dl B ff X i m = dv B X i m
  | 0, _, _, _, _ => rfl
  | m + 1, i, X, h1, h2 => by
    show dl B ff (if i - ff < 3 then (10 : Int32) * X + B i - 48 else X) (i + 1) m = dv B ((10 : Int32) * X + B i - 48) (i + 1) m
    rw [if_pos (by omega)]
    exact dl_dv m (i + 1) _ (by omega) (by omega)
theorem dig_loop {B : Nat → Int32} {n ff : Nat} {y : Int32} : ∀ (m i fu : Nat) (T : mM), n - i = m → ff ≤ i → i ≤ n → m < fu → bE T B n → T.1 69 20 = nI i →
    ∃ T', f_X12_next_230 fu y (nI ff) T = (if y = (45 : Int32) then f_X12_next_315 (nI ff) (-(T'.1 69 23)) T' else f_X12_next_315 (nI ff) (T'.1 69 23) T') ∧ nF T T' ∧ T'.1 69 20 = nI (rn (isDg B) m i) ∧ T'.1 69 23 = dl B ff (T.1 69 23) i (rn (isDg B) m i - i) ∧ (∀ j, j ≠ 20 → j ≠ 23 → T'.1 69 j = T.1 69 j)
  | 0, i, fu + 1, T, hm, hff, hi, _, e, h => by
    refine ⟨T, ?_, nF.rfl, h, ?_, fun _ _ _ => rfl⟩
    · unfold f_X12_next_230
      have := e.1
      rw [look_out e h (by omega) (by omega), mBind_of, in_eq, mBind_of, if_pos (b01.mpr (by decide))]
    · rw [show rn (isDg B) 0 i = i from rfl, Nat.sub_self]
      rfl
  | m + 1, i, fu + 1, T, hm, hff, hi, hf, e, h => by
    have hn := e.1
    have hlt : i < n := by omega
    have hc := ch (e.2.2 i hlt).2
    unfold f_X12_next_230
    rw [look_in e h hlt, mBind_of, in_eq, mBind_of]
    by_cases d : 48 ≤ B i ∧ B i ≤ 57
    · rw [if_neg (fun z => b01.mp z (by rw [l48, l57]; exact hc.2.2.2.2.2.1.mpr d)), look_in e h hlt, mBind_of, hc.2.2.2.2.2.2.2.1 d, h, nI_sub hff]
      have d' : isDg B i = true := decide_eq_true d
      have hz : (if (3 : Int32) ≤ nI (i - ff) then f_X12_next_280 (f_X12_next_230 fu) y (nI ff) (T.1 69 23) T else f_X12_next_280 (f_X12_next_230 fu) y (nI ff) ((10 : Int32) * T.1 69 23 + B i - (48 : Int32)) T) = f_X12_next_280 (f_X12_next_230 fu) y (nI ff) (if i - ff < 3 then (10 : Int32) * T.1 69 23 + B i - 48 else T.1 69 23) T := by
        by_cases q : i - ff < 3
        · rw [if_neg (show ¬ (3 : Int32) ≤ nI (i - ff) from nI_ge (b := 3) q (by omega)), if_pos q]
        · rw [if_pos (show (3 : Int32) ≤ nI (i - ff) from nI_le (a := 3) (by omega) (by omega)), if_neg q]
      rw [hz]
      unfold f_X12_next_280
      simp only [bnd]
      rw [setI_slot _ _ _ _ (show 20 ≠ 23 by omega), h, nI_1]
      generalize hX : (if i - ff < 3 then (10 : Int32) * T.1 69 23 + B i - 48 else T.1 69 23) = X
      have f1 : nF T (setI (setI T 69 23 X) 69 20 (nI (i + 1))) := (nF.set (by omega)).tr (nF.set (by omega))
      obtain ⟨T', k1, k2, k3, k4, k5⟩ := dig_loop (B := B) (n := n) (ff := ff) (y := y) m (i + 1) fu (setI (setI T 69 23 X) 69 20 (nI (i + 1))) (by omega) (by omega) (by omega) (by omega) (f1.bE e) (setI_same _ _ _ _)
      refine ⟨T', k1, f1.tr k2, by rw [rn_t d']; exact k3, ?_, fun j q1 q2 => by rw [k5 j q1 q2, setI_slot _ _ _ _ q1, setI_slot _ _ _ _ q2]⟩
      have hg := rn_ge (isDg B) m (i + 1)
      rw [k4, setI_slot _ _ _ _ (show 23 ≠ 20 by omega), setI_same, rn_t d', show rn (isDg B) m (i + 1) - i = rn (isDg B) m (i + 1) - (i + 1) + 1 by omega, ← hX]
      rfl
    · rw [if_pos (b01.mpr (by rw [l48, l57]; exact fun z => d (hc.2.2.2.2.2.1.mp z)))]
      have d' : ¬ isDg B i = true := fun z => d (of_decide_eq_true z)
      refine ⟨T, rfl, nF.rfl, by rw [rn_f d']; exact h, ?_, fun _ _ _ => rfl⟩
      rw [rn_f d', Nat.sub_self]
      rfl
def wTail (T : mM) : Option (Unit × mM) := mBind (f_X12_named (T.2.1 69 24) T) fun r5 S6 => if (setI S6 69 23 r5).1 69 23 = (-4 : Int32) then mBind (f_X12_fails (1 : Int32) ((setI S6 69 23 r5).1 69 21) (setI S6 69 23 r5)) fun _ S9 => some ((), S9) else some ((), setI S6 69 23 r5)
theorem let_loop {B : Nat → Int32} {n s : Nat} : ∀ (m i fu : Nat) (T : mM), n - i = m → s ≤ i → i ≤ n → m < fu → bE T B n → T.1 69 20 = nI i → T.1 69 21 = nI s → T.2.1 69 24 = Ww B s (i - s) →
    ∃ T', f_X12_next_71 fu T = wTail T' ∧ nF T T' ∧ T'.1 69 20 = nI (rn (isLt B) m i) ∧ T'.2.1 69 24 = Ww B s (rn (isLt B) m i - s) ∧ (∀ j, j ≠ 20 → T'.1 69 j = T.1 69 j)
  | 0, i, fu + 1, T, hm, hs, hi, _, e, h, h21, hJ => by
    refine ⟨T, ?_, nF.rfl, h, hJ, fun _ _ => rfl⟩
    unfold f_X12_next_71
    have := e.1
    rw [look_out e h (by omega) (by omega), mBind_of, in_eq, mBind_of, if_pos (b01.mpr (by decide))]
    rfl
  | m + 1, i, fu + 1, T, hm, hs, hi, hf, e, h, h21, hJ => by
    have hn := e.1
    have hlt : i < n := by omega
    have hc := ch (e.2.2 i hlt).2
    unfold f_X12_next_71
    rw [look_in e h hlt, mBind_of, in_eq, mBind_of]
    by_cases d : 97 ≤ B i ∧ B i ≤ 122
    · rw [if_neg (fun z => b01.mp z (by rw [l97, l122]; exact hc.2.2.2.2.1.mpr d)), look_in e h hlt, mBind_of, hc.2.2.2.2.2.2.1 d, h, h21, nI_sub hs, hJ]
      have d' : isLt B i = true := decide_eq_true d
      have hz : (if (6 : Int32) ≤ nI (i - s) then f_X12_next_127 (f_X12_next_71 fu) (-1 : Int64) T else f_X12_next_127 (f_X12_next_71 fu) ((27 : Int64) * Ww B s (i - s) + (B i).toInt64 - (96 : Int64)) T) = f_X12_next_127 (f_X12_next_71 fu) (Ww B s (i - s + 1)) T := by
        show _ = f_X12_next_127 (f_X12_next_71 fu) (if i - s < 6 then (27 : Int64) * Ww B s (i - s) + (B (s + (i - s))).toInt64 - 96 else -1) T
        rw [show s + (i - s) = i by omega]
        by_cases q : i - s < 6
        · rw [if_neg (show ¬ (6 : Int32) ≤ nI (i - s) from nI_ge (b := 6) q (by omega)), if_pos q]
        · rw [if_pos (show (6 : Int32) ≤ nI (i - s) from nI_le (a := 6) (by omega) (by omega)), if_neg q]
      rw [hz]
      unfold f_X12_next_127
      simp only [bnd]
      rw [show (setJ T 69 24 (Ww B s (i - s + 1))).1 69 20 = nI i from h, nI_1]
      have f1 : nF T (setI (setJ T 69 24 (Ww B s (i - s + 1))) 69 20 (nI (i + 1))) := nF.setJ.tr (nF.set (by omega))
      obtain ⟨T', k1, k2, k3, k4, k5⟩ := let_loop (B := B) (n := n) (s := s) m (i + 1) fu (setI (setJ T 69 24 (Ww B s (i - s + 1))) 69 20 (nI (i + 1))) (by omega) (by omega) (by omega) (by omega) (f1.bE e) (setI_same _ _ _ _) (by rw [setI_slot _ _ _ _ (by omega)]; exact h21) (by rw [setI_2, setJ_2, if_pos ⟨rfl, rfl⟩, show i + 1 - s = i - s + 1 by omega])
      exact ⟨T', k1, f1.tr k2, by rw [rn_t d']; exact k3, by rw [rn_t d']; exact k4, fun j q1 => by rw [k5 j q1, setI_slot _ _ _ _ q1]; rfl⟩
    · rw [if_pos (b01.mpr (by rw [l97, l122]; exact fun z => d (hc.2.2.2.2.1.mp z)))]
      have d' : ¬ isLt B i = true := fun z => d (of_decide_eq_true z)
      exact ⟨T, rfl, nF.rfl, by rw [rn_f d']; exact h, by rw [rn_f d']; exact hJ, fun _ _ => rfl⟩
/-- the reference stands at the token that begins at s -/
def Nx (T : mM) (B : Nat → Int32) (n s : Nat) : Prop :=
  (tK B n s = 5 ∧ T.1 69 18 = 1 ∧ T.1 69 19 = nI s) ∨ (tK B n s ≠ 5 ∧ T.1 69 18 = 0 ∧ T.1 69 21 = nI s ∧ (s < n → T.1 69 20 = nI (max (tE B n s) (s + 1))) ∧
    ((tK B n s = 0 ∧ T.1 69 22 = 0) ∨ (tK B n s = 1 ∧ T.1 69 22 = 1 ∧ T.1 69 23 = tV B n s) ∨ (tK B n s = 2 ∧ T.1 69 22 = 2 ∧ T.1 69 23 = tV B n s) ∨ (tK B n s = 3 ∧ T.1 69 22 = 3 ∧ T.1 69 23 = 42) ∨ (tK B n s = 4 ∧ T.1 69 22 = 3 ∧ T.1 69 23 = 59)))
theorem next_body {T : mM} {B : Nat → Int32} {n s fu : Nat} (e : bE T B n) (h : T.1 69 20 = nI s) (hs : s ≤ n) (hsp : s < n → ¬ B s = 32) (hf : T.1 69 18 = 0) : ∃ T', f_X12_next_0 (fu + 1) T = some ((), T') ∧ nF T T' ∧ Nx T' B n s := by
  have hn := e.1
  have f1 : nF T (setI T 69 21 (nI s)) := nF.set (by omega)
  have e1 := f1.bE e
  have h1 : (setI T 69 21 (nI s)).1 69 20 = nI s := by rw [setI_slot _ _ _ _ (by omega)]; exact h
  have hf1 : (setI T 69 21 (nI s)).1 69 18 = 0 := by rw [setI_slot _ _ _ _ (by omega)]; exact hf
  have h21 : (setI T 69 21 (nI s)).1 69 21 = nI s := setI_same _ _ _ _
  by_cases hlt : s < n
  case neg =>
    unfold f_X12_next_0
    rw [look_out e h (by omega) (by omega), mBind_of, if_neg (by decide)]
    simp only [bnd]
    rw [h, look_out e1 h1 (by omega) (by omega), mBind_of, if_neg (by decide)]
    refine ⟨_, rfl, f1.tr (nF.set (by omega)), Or.inr ⟨?_, ?_, ?_, fun z => absurd z hlt, Or.inl ⟨if_pos (by omega), setI_same _ _ _ _⟩⟩⟩
    · rw [show tK B n s = 0 from if_pos (by omega)]
      decide
    · rw [setI_slot _ _ _ _ (by omega)]
      exact hf1
    · rw [setI_slot _ _ _ _ (by omega)]
      exact h21
  have hc := ch (e.2.2 s hlt).2
  have nle : ¬ n ≤ s := by omega
  have hhead : ∀ R, (if 97 ≤ B s ∧ B s ≤ 122 then f_X12_next_71 mFuel (setJ (setI (setI T 69 21 (nI s)) 69 22 1) 69 24 0) else if B s = 45 then f_X12_next_195 (B s &&& 255) (setI T 69 21 (nI s)) else if 48 ≤ B s ∧ B s ≤ 57 then f_X12_next_195 (B s &&& 255) (setI T 69 21 (nI s)) else if B s = 42 then f_X12_next_360 (B s &&& 255) (setI T 69 21 (nI s)) else if B s = 59 then f_X12_next_360 (B s &&& 255) (setI T 69 21 (nI s)) else mBind (f_X12_fails (1 : Int32) ((setI T 69 21 (nI s)).1 69 21) (setI T 69 21 (nI s))) fun _ S12 => some ((), S12)) = R → f_X12_next_0 (fu + 1) T = R := fun R hR => by
    unfold f_X12_next_0
    rw [look_in e h hlt, mBind_of, if_neg (fun z => hsp hlt (hc.1.mp z))]
    simp only [bnd]
    rw [h, look_in e1 h1 hlt, mBind_of, if_pos hc.2.2.2.2.2.2.2.2]
    simp only [in_eq, mBind_of, b01, l97, l122, l48, l57, hc.2.2.2.2.1, hc.2.1, hc.2.2.2.2.2.1, hc.2.2.1, hc.2.2.2.1]
    rw [← hR]
    by_cases c1 : 97 ≤ B s ∧ B s ≤ 122
    · rw [if_nn c1, if_pos c1]
    · rw [if_pos c1, if_neg c1]
      by_cases c2 : B s = 45
      · rw [if_pos c2, if_pos c2]
      · rw [if_neg c2, if_neg c2]
        by_cases c3 : 48 ≤ B s ∧ B s ≤ 57
        · rw [if_nn c3, if_pos c3]
        · rw [if_pos c3, if_neg c3]
  by_cases c1 : 97 ≤ B s ∧ B s ≤ 122
  · -- a word
    have n42 : ¬ B s = 42 := fun z => by rw [z] at c1; exact absurd c1 (by decide)
    have n59 : ¬ B s = 59 := fun z => by rw [z] at c1; exact absurd c1 (by decide)
    have d' : isLt B s = true := decide_eq_true c1
    have f2 : nF T (setJ (setI (setI T 69 21 (nI s)) 69 22 1) 69 24 0) := (f1.tr (nF.set (by omega))).tr nF.setJ
    have g20 : (setJ (setI (setI T 69 21 (nI s)) 69 22 1) 69 24 0).1 69 20 = nI s := by rw [setJ_1, setI_slot _ _ _ _ (by omega)]; exact h1
    have g21 : (setJ (setI (setI T 69 21 (nI s)) 69 22 1) 69 24 0).1 69 21 = nI s := by rw [setJ_1, setI_slot _ _ _ _ (by omega)]; exact h21
    have g18 : (setJ (setI (setI T 69 21 (nI s)) 69 22 1) 69 24 0).1 69 18 = 0 := by rw [setJ_1, setI_slot _ _ _ _ (by omega)]; exact hf1
    have g22 : (setJ (setI (setI T 69 21 (nI s)) 69 22 1) 69 24 0).1 69 22 = 1 := by rw [setJ_1, setI_same]
    obtain ⟨T', k1, k2, k3, k4, k5⟩ := let_loop (B := B) (n := n) (s := s) (n - s) s mFuel (setJ (setI (setI T 69 21 (nI s)) 69 22 1) 69 24 0) rfl (Nat.le_refl s) hs (by unfold mFuel; omega) (f2.bE e) g20 g21 (by rw [setJ_2, if_pos ⟨rfl, rfl⟩, Nat.sub_self]; rfl)
    have hb := wE_b (B := B) hs
    have hL : ∀ k, k < wE B n s - s → isLt B (s + k) = true := fun k hk => rn_in (isLt B) (n - s) s (s + k) (by omega) (show s + k < wE B n s by omega)
    have hE1 : s + 1 ≤ wE B n s := by
      unfold wE
      rw [show n - s = n - (s + 1) + 1 by omega, rn_t d']
      exact rn_ge _ _ _
    have eE : tE B n s = wE B n s := by
      unfold tE
      rw [if_neg n42, if_neg n59, if_pos d']
    have eK : tK B n s = if wo B (wE B n s - s) s = 9 then 5 else 1 := by
      unfold tK
      rw [if_neg nle, if_neg n42, if_neg n59, if_pos d']
    have eV : tV B n s = wo B (wE B n s - s) s := by
      unfold tV
      rw [if_neg nle, if_neg n42, if_neg n59, if_pos d']
    have hw : wTail T' = if wo B (wE B n s - s) s = 9 then some ((), setI (setI (setI T' 69 23 (-4)) 69 18 1) 69 19 (nI s)) else some ((), setI T' 69 23 (wo B (wE B n s - s) s)) := by
      unfold wTail
      rw [k4, show rn (isLt B) (n - s) s - s = wE B n s - s from rfl, named_eq hL, mBind_of, setI_same, setI_slot _ _ _ _ (show 21 ≠ 23 by omega), k5 21 (by omega), g21]
      by_cases q : wo B (wE B n s - s) s = 9
      · rw [if_pos q, if_pos rfl, if_pos q, fails_eq (by rw [setI_slot _ _ _ _ (by omega), k5 18 (by omega)]; exact g18), mBind_of]
      · obtain ⟨k, hk, hk'⟩ := wo_le B (wE B n s - s) s
        rw [if_neg q, if_neg (by rw [hk']; exact m1_ne (by omega)), if_neg q]
    by_cases q : wo B (wE B n s - s) s = 9
    · refine ⟨setI (setI (setI T' 69 23 (-4)) 69 18 1) 69 19 (nI s), hhead _ (by rw [if_pos c1, k1, hw, if_pos q]), ((f2.tr k2).tr (nF.set (by omega))).tr ((nF.set (by omega)).tr (nF.set (by omega))), Or.inl ⟨by rw [eK, if_pos q], by rw [setI_slot _ _ _ _ (by omega), setI_same], setI_same _ _ _ _⟩⟩
    · refine ⟨setI T' 69 23 (wo B (wE B n s - s) s), hhead _ (by rw [if_pos c1, k1, hw, if_neg q]), (f2.tr k2).tr (nF.set (by omega)), Or.inr ⟨by rw [eK, if_neg q]; decide, ?_, ?_, fun _ => ?_, Or.inr (Or.inl ⟨by rw [eK, if_neg q], ?_, by rw [eV, setI_same]⟩)⟩⟩
      · rw [setI_slot _ _ _ _ (by omega), k5 18 (by omega)]
        exact g18
      · rw [setI_slot _ _ _ _ (by omega), k5 21 (by omega)]
        exact g21
      · rw [setI_slot _ _ _ _ (by omega), k3, eE, show max (wE B n s) (s + 1) = wE B n s by omega]
        rfl
      · rw [setI_slot _ _ _ _ (by omega), k5 22 (by omega)]
        exact g22
  · have d' : ¬ isLt B s = true := fun z => c1 (of_decide_eq_true z)
    by_cases c4 : B s = 42
    · have n45 : ¬ B s = 45 := fun z => by rw [z] at c4; exact absurd c4 (by decide)
      have ndg : ¬ (48 ≤ B s ∧ B s ≤ 57) := fun z => by rw [c4] at z; exact absurd z (by decide)
      have eK : tK B n s = 3 := by
        unfold tK
        rw [if_neg nle, if_pos c4]
      refine ⟨setI (setI (setI (setI T 69 21 (nI s)) 69 22 3) 69 23 42) 69 20 (nI (s + 1)), hhead _ ?_, ((f1.tr (nF.set (by omega))).tr (nF.set (by omega))).tr (nF.set (by omega)), Or.inr ⟨by rw [eK]; decide, ?_, ?_, fun _ => ?_, Or.inr (Or.inr (Or.inr (Or.inl ⟨eK, ?_, ?_⟩)))⟩⟩
      · rw [if_neg c1, if_neg n45, if_neg ndg, if_pos c4, (hc.2.2.1).mpr c4]
        unfold f_X12_next_360
        simp only [bnd]
        rw [setI_slot _ _ _ _ (show 20 ≠ 23 by omega), setI_slot _ _ _ _ (show 20 ≠ 22 by omega), h1, nI_1]
      · rw [setI_slot _ _ _ _ (by omega), setI_slot _ _ _ _ (by omega), setI_slot _ _ _ _ (by omega)]
        exact hf1
      · rw [setI_slot _ _ _ _ (by omega), setI_slot _ _ _ _ (by omega), setI_slot _ _ _ _ (by omega)]
        exact h21
      · rw [setI_same]
        unfold tE
        rw [if_pos c4, Nat.max_self]
      · rw [setI_slot _ _ _ _ (by omega), setI_slot _ _ _ _ (by omega), setI_same]
      · rw [setI_slot _ _ _ _ (by omega), setI_same]
    · by_cases c5 : B s = 59
      · have n45 : ¬ B s = 45 := fun z => by rw [z] at c5; exact absurd c5 (by decide)
        have ndg : ¬ (48 ≤ B s ∧ B s ≤ 57) := fun z => by rw [c5] at z; exact absurd z (by decide)
        have eK : tK B n s = 4 := by
          unfold tK
          rw [if_neg nle, if_neg c4, if_pos c5]
        refine ⟨setI (setI (setI (setI T 69 21 (nI s)) 69 22 3) 69 23 59) 69 20 (nI (s + 1)), hhead _ ?_, ((f1.tr (nF.set (by omega))).tr (nF.set (by omega))).tr (nF.set (by omega)), Or.inr ⟨by rw [eK]; decide, ?_, ?_, fun _ => ?_, Or.inr (Or.inr (Or.inr (Or.inr ⟨eK, ?_, ?_⟩)))⟩⟩
        · rw [if_neg c1, if_neg n45, if_neg ndg, if_neg c4, if_pos c5, (hc.2.2.2.1).mpr c5]
          unfold f_X12_next_360
          simp only [bnd]
          rw [setI_slot _ _ _ _ (show 20 ≠ 23 by omega), setI_slot _ _ _ _ (show 20 ≠ 22 by omega), h1, nI_1]
        · rw [setI_slot _ _ _ _ (by omega), setI_slot _ _ _ _ (by omega), setI_slot _ _ _ _ (by omega)]
          exact hf1
        · rw [setI_slot _ _ _ _ (by omega), setI_slot _ _ _ _ (by omega), setI_slot _ _ _ _ (by omega)]
          exact h21
        · rw [setI_same]
          unfold tE
          rw [if_neg c4, if_pos c5, Nat.max_self]
        · rw [setI_slot _ _ _ _ (by omega), setI_slot _ _ _ _ (by omega), setI_same]
        · rw [setI_slot _ _ _ _ (by omega), setI_same]
      · have eE : tE B n s = nE B n s := by
          unfold tE
          rw [if_neg c4, if_neg c5, if_neg d']
        have eK : tK B n s = if 1 ≤ nE B n s - fg B s ∧ nE B n s - fg B s ≤ 3 then 2 else 5 := by
          unfold tK
          rw [if_neg nle, if_neg c4, if_neg c5, if_neg d']
        have eV : tV B n s = if B s = 45 then - dv B 0 (fg B s) (nE B n s - fg B s) else dv B 0 (fg B s) (nE B n s - fg B s) := by
          unfold tV
          rw [if_neg nle, if_neg c4, if_neg c5, if_neg d']
        have hbN := nE_b (B := B) hlt
        have hbF := fg_b B s
        by_cases hnum : B s = 45 ∨ (48 ≤ B s ∧ B s ≤ 57)
        · -- a number
          have h195 : (if 97 ≤ B s ∧ B s ≤ 122 then f_X12_next_71 mFuel (setJ (setI (setI T 69 21 (nI s)) 69 22 1) 69 24 0) else if B s = 45 then f_X12_next_195 (B s &&& 255) (setI T 69 21 (nI s)) else if 48 ≤ B s ∧ B s ≤ 57 then f_X12_next_195 (B s &&& 255) (setI T 69 21 (nI s)) else if B s = 42 then f_X12_next_360 (B s &&& 255) (setI T 69 21 (nI s)) else if B s = 59 then f_X12_next_360 (B s &&& 255) (setI T 69 21 (nI s)) else mBind (f_X12_fails (1 : Int32) ((setI T 69 21 (nI s)).1 69 21) (setI T 69 21 (nI s))) fun _ S12 => some ((), S12)) = f_X12_next_195 (B s &&& 255) (setI T 69 21 (nI s)) := by
            rw [if_neg c1]
            by_cases c2 : B s = 45
            · rw [if_pos c2]
            · rw [if_neg c2]
              rcases hnum with q | q
              · exact absurd q c2
              · rw [if_pos q]
          generalize hTa : setI (setI (setI (setI T 69 21 (nI s)) 69 22 2) 69 20 (nI (fg B s))) 69 23 0 = Ta
          have fa : nF T Ta := by
            rw [← hTa]
            exact ((f1.tr (nF.set (by omega))).tr (nF.set (by omega))).tr (nF.set (by omega))
          have a18 : Ta.1 69 18 = 0 := by rw [← hTa, setI_slot _ _ _ _ (by omega), setI_slot _ _ _ _ (by omega), setI_slot _ _ _ _ (by omega)]; exact hf1
          have a21 : Ta.1 69 21 = nI s := by rw [← hTa, setI_slot _ _ _ _ (by omega), setI_slot _ _ _ _ (by omega), setI_slot _ _ _ _ (by omega)]; exact h21
          have a22 : Ta.1 69 22 = 2 := by rw [← hTa, setI_slot _ _ _ _ (by omega), setI_slot _ _ _ _ (by omega), setI_same]
          have a20 : Ta.1 69 20 = nI (fg B s) := by rw [← hTa, setI_slot _ _ _ _ (by omega), setI_same]
          have a23 : Ta.1 69 23 = 0 := by rw [← hTa, setI_same]
          obtain ⟨T', k1, k2, k3, k4, k5⟩ := dig_loop (B := B) (n := n) (ff := fg B s) (y := B s &&& 255) (n - fg B s) (fg B s) mFuel Ta rfl (Nat.le_refl _) (by omega) (by unfold mFuel; omega) (fa.bE e) a20
          have hgo : f_X12_next_195 (B s &&& 255) (setI T 69 21 (nI s)) = f_X12_next_315 (nI (fg B s)) (if B s = 45 then -(T'.1 69 23) else T'.1 69 23) T' := by
            unfold f_X12_next_195 f_X12_next_216
            simp only [bnd, setI_same]
            rw [setI_slot _ _ _ _ (show 20 ≠ 22 by omega), h1]
            by_cases c2 : B s = 45
            · have ef : fg B s = s + 1 := if_pos c2
              rw [if_pos (hc.2.1.mpr c2), show nI s + (1 : Int32) = nI (fg B s) by rw [nI_1, ef], hTa, k1, if_pos (hc.2.1.mpr c2), if_pos c2]
            · have ef : fg B s = s := if_neg c2
              rw [if_neg (fun z => c2 (hc.2.1.mp z)), show nI s + (0 : Int32) = nI (fg B s) by rw [ef]; exact nI_add s 0, hTa, k1, if_neg (fun z => c2 (hc.2.1.mp z)), if_neg c2]
          generalize hz : (if B s = 45 then -(T'.1 69 23) else T'.1 69 23) = z at hgo
          have k3 : T'.1 69 20 = nI (nE B n s) := k3
          have g18 : (setI T' 69 23 z).1 69 18 = 0 := by rw [setI_slot _ _ _ _ (by omega), k5 18 (by omega) (by omega)]; exact a18
          have g21 : (setI T' 69 23 z).1 69 21 = nI s := by rw [setI_slot _ _ _ _ (by omega), k5 21 (by omega) (by omega)]; exact a21
          have h315 : f_X12_next_315 (nI (fg B s)) z T' = if 1 ≤ nE B n s - fg B s ∧ nE B n s - fg B s ≤ 3 then some ((), setI T' 69 23 z) else some ((), setI (setI (setI T' 69 23 z) 69 18 1) 69 19 (nI s)) := by
            unfold f_X12_next_315
            simp only [bnd]
            rw [setI_slot _ _ _ _ (show 20 ≠ 23 by omega), k3, fails_eq g18, mBind_of, g21]
            by_cases q0 : nE B n s = fg B s
            · rw [if_pos (by rw [q0]), if_neg (by omega)]
            · rw [if_neg (fun z => q0 ((nI_eq (by omega) (by omega)).mp z)), nI_sub hbN.1]
              by_cases q3 : nE B n s - fg B s ≤ 3
              · rw [if_pos (show nI (nE B n s - fg B s) ≤ (3 : Int32) from nI_le (b := 3) q3 (by omega)), if_pos (by omega)]
              · rw [if_neg (show ¬ nI (nE B n s - fg B s) ≤ (3 : Int32) from nI_ge (a := 3) (by omega) (by omega)), if_neg (by omega)]
          by_cases q : 1 ≤ nE B n s - fg B s ∧ nE B n s - fg B s ≤ 3
          · refine ⟨setI T' 69 23 z, hhead _ (by rw [h195, hgo, h315, if_pos q]), (fa.tr k2).tr (nF.set (by omega)), Or.inr ⟨by rw [eK, if_pos q]; decide, g18, g21, fun _ => ?_, Or.inr (Or.inr (Or.inl ⟨by rw [eK, if_pos q], ?_, ?_⟩))⟩⟩
            · rw [setI_slot _ _ _ _ (by omega), k3, eE, show max (nE B n s) (s + 1) = nE B n s by omega]
            · rw [setI_slot _ _ _ _ (by omega), k5 22 (by omega) (by omega)]
              exact a22
            · rw [setI_same, eV, ← hz, k4, a23, show rn (isDg B) (n - fg B s) (fg B s) - fg B s = nE B n s - fg B s from rfl, dl_dv _ _ _ (Nat.le_refl _) (by omega)]
          · exact ⟨setI (setI (setI T' 69 23 z) 69 18 1) 69 19 (nI s), hhead _ (by rw [h195, hgo, h315, if_neg q]), (((fa.tr k2).tr (nF.set (by omega))).tr (nF.set (by omega))).tr (nF.set (by omega)), Or.inl ⟨by rw [eK, if_neg q], by rw [setI_slot _ _ _ _ (by omega), setI_same], setI_same _ _ _ _⟩⟩
        · have n45 : ¬ B s = 45 := fun z => hnum (Or.inl z)
          have ndg : ¬ (48 ≤ B s ∧ B s ≤ 57) := fun z => hnum (Or.inr z)
          have ef : fg B s = s := if_neg n45
          have eN : nE B n s = s := by
            unfold nE
            rw [ef, show n - s = n - (s + 1) + 1 by omega]
            exact rn_f (fun z => ndg (of_decide_eq_true z))
          refine ⟨setI (setI (setI T 69 21 (nI s)) 69 18 1) 69 19 (nI s), hhead _ ?_, (f1.tr (nF.set (by omega))).tr (nF.set (by omega)), Or.inl ⟨?_, by rw [setI_slot _ _ _ _ (by omega), setI_same], setI_same _ _ _ _⟩⟩
          · rw [if_neg c1, if_neg n45, if_neg ndg, if_neg c4, if_neg c5, fails_eq hf1, mBind_of, h21]
          · rw [eK, if_neg (by omega)]
theorem next_loop {B : Nat → Int32} {n : Nat} : ∀ (m i fu : Nat) (T : mM), n - i = m → i ≤ n → m < fu → bE T B n → T.1 69 20 = nI i → T.1 69 18 = 0 → ∃ T', f_X12_next_0 fu T = some ((), T') ∧ nF T T' ∧ Nx T' B n (sk B n i)
  | 0, i, fu + 1, T, hm, hi, _, e, h, hf => by
    rw [sk_end (by omega)]
    exact next_body e h hi (fun z => absurd z (by omega)) hf
  | m + 1, i, fu + 1, T, hm, hi, hfu, e, h, hf => by
    have hlt : i < n := by omega
    by_cases c : B i = 32
    · have f1 : nF T (setI T 69 20 (nI (i + 1))) := nF.set (by omega)
      obtain ⟨T', k1, k2, k3⟩ := next_loop (B := B) (n := n) m (i + 1) fu (setI T 69 20 (nI (i + 1))) (by omega) (by omega) (by omega) (f1.bE e) (setI_same _ _ _ _) (by rw [setI_slot _ _ _ _ (by omega)]; exact hf)
      rw [sk_sp hlt c]
      refine ⟨T', ?_, f1.tr k2, k3⟩
      unfold f_X12_next_0
      rw [look_in e h hlt, mBind_of, if_pos ((ch (e.2.2 i hlt).2).1.mpr c)]
      simp only [bnd]
      rw [h, nI_1]
      exact k1
    · rw [sk_no c]
      exact next_body e h hi (fun _ => c) hf
theorem next_ok {T : mM} {B : Nat → Int32} {n i : Nat} (e : bE T B n) (h : T.1 69 20 = nI i) (hi : i ≤ n) (hf : T.1 69 18 = 0) : ∃ T', f_X12_next T = some ((), T') ∧ nF T T' ∧ Nx T' B n (sk B n i) := by
  have := e.1
  exact next_loop (n - i) i mFuel T rfl hi (by unfold mFuel; omega) e h hf
