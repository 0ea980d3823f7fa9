/-! PURE: wires -/
theorem z01 : ((0 : Int32) = 1) = False := eq_false (by decide)
theorem z10 : ((1 : Int32) = 0) = False := eq_false (by decide)
theorem z00 : ((0 : Int32) ≤ 0) = True := eq_true (by decide)
theorem z11 : ((1 : Int32) ≤ 1) = True := eq_true (by decide)
theorem zl01 : ((0 : Int32) ≤ 1) = True := eq_true (by decide)
theorem zl10 : ((1 : Int32) ≤ 0) = False := eq_false (by decide)
theorem wR.set {S S' : mM} {w j : Nat} {v : Int32} (hj : j ≠ 2) (h : wR S S' w) : wR (setI S 66 j v) S' w := by
  refine ⟨by rw [setI_slot _ _ _ _ (Ne.symm hj)]; exact h.1, h.2.1, fun i hi => ?_⟩
  rw [setI_row _ _ _ _ (by omega), setI_row _ _ _ _ (by omega)]
  exact h.2.2 i hi
theorem cF.set {S : mM} {j : Nat} {v : Int32} : cF S (setI S 66 j v) := ⟨fun _ q1 _ _ => setI_row _ _ _ _ q1, Eq.refl _⟩
theorem shl0 : ∀ x, x < 256 → ((nI x) <<< ((1 : Int32) &&& 31)) ||| (0 : Int32) = nI (2 * x + 0) := by decide +kernel
theorem shl1 : ∀ x, x < 256 → ((nI x) <<< ((1 : Int32) &&& 31)) ||| (1 : Int32) = nI (2 * x + 1) := by decide +kernel
/-- bits under way: class against reference's numbers -/
def wB (S : mM) (y4 y5 y6 y7 : Int32) : Prop := S.1 66 4 = y4 ∧ (y4 = 0 ∨ (y4 = 1 ∧ ∃ b x, b ≤ 8 ∧ x < 2 ^ b ∧ S.1 66 5 = nI b ∧ y5 = nI b ∧ y6 = nI x ∧ (0 < b → S.1 66 6 = nI x ∧ S.1 66 7 = y7)))
theorem take_bit {S S' : mM} {w i : Nat} {y1 y2 y3 y5 y6 y7 D : Int32} (hD : D = 0 ∨ D = 1) (hw : w < 20) (hr : wR S S' w) (hb : wB S 1 y5 y6 y7) :
    ∃ S1 S2 w' y5' y6' y7', f_X10_takeBit D (nI i) S = some ((), S1) ∧ (∀ k65, (if y5 = 0 then f_X12_wires_239 k65 y1 y2 y3 1 y5 y6 (nI i) D (nI i) S' else f_X12_wires_239 k65 y1 y2 y3 1 y5 y6 (nI i) D y7 S') = k65 y1 y2 y3 1 y5' y6' y7' (nI (i + 1)) S2) ∧
      cF S S1 ∧ rF S' S2 ∧ S1.1 66 3 = S.1 66 3 ∧ S2.1 69 51 = S'.1 69 51 ∧ w' ≤ 20 ∧ wR S1 S2 w' ∧ wB S1 1 y5' y6' y7' := by
  obtain ⟨h4, h0 | ⟨-, b, x, b1, b2, b3, rfl, rfl, b6⟩⟩ := hb
  · exact absurd h0 (by decide)
  obtain ⟨d, hd, rfl⟩ : ∃ d : Nat, d ≤ 1 ∧ D = nI d := by
    rcases hD with rfl | rfl
    · exact ⟨0, by omega, rfl⟩
    · exact ⟨1, by omega, rfl⟩
  have sh : x < 256 → ((nI x) <<< ((1 : Int32) &&& 31)) ||| nI d = nI (2 * x + d) := fun hx => by
    rcases (show d = 0 ∨ d = 1 by omega) with rfl | rfl
    · exact shl0 x hx
    · exact shl1 x hx
  have tw : ∀ x, (2 : Int32) * nI x + nI d = nI (2 * x + d) := fun x => by rw [show (2 : Int32) = nI 2 from rfl, nI_mul, nI_add]
  unfold f_X10_takeBit f_X10_takeBit_25
  rw [h4, if_neg (show ¬ (1 : Int32) = 0 by decide), b3]
  by_cases hb0 : b = 0
  · subst hb0
    have hx : x = 0 := by omega
    subst hx
    refine ⟨setI (setI (setI (setI S 66 7 (nI i)) 66 6 0) 66 5 (nI 1)) 66 6 (nI d), S', w, nI 1, nI d, nI i, ?_, fun k65 => ?_, ⟨fun b q1 q2 q3 => ?_, rfl⟩, rF.rfl, ?_, rfl, by omega, ?_, ⟨?_, Or.inr ⟨rfl, 1, d, by omega, by omega, ?_, rfl, rfl, fun _ => ⟨setI_same _ _ _ _, ?_⟩⟩⟩⟩
    · rw [if_pos nI_0]
      simp only [bnd]
      have g1 : (setI (setI S 66 7 (nI i)) 66 6 0).1 66 5 + (1 : Int32) = nI 1 := by rw [setI_slot _ _ _ _ (by omega), setI_slot _ _ _ _ (by omega), b3]; rfl
      rw [g1, setI_same, if_neg (show ¬ (8 : Int32) < nI 1 by decide), setI_slot _ _ _ _ (by omega), setI_same, show (2 : Int32) * 0 + nI d = nI (2 * 0 + d) from tw 0, Nat.mul_zero, Nat.zero_add]
    · rw [if_pos nI_0]
      unfold f_X12_wires_239
      rw [if_neg (show ¬ (8 : Int32) ≤ nI 0 by decide), sh (by omega)]
      simp only [bnd, nI_1, Nat.mul_zero, Nat.zero_add]
    · rw [setI_row _ _ _ _ q1, setI_row _ _ _ _ q1, setI_row _ _ _ _ q1, setI_row _ _ _ _ q1]
    · rw [setI_slot _ _ _ _ (by omega), setI_slot _ _ _ _ (by omega), setI_slot _ _ _ _ (by omega), setI_slot _ _ _ _ (by omega)]
    · exact (((hr.set (by omega)).set (by omega)).set (by omega)).set (by omega)
    · rw [setI_slot _ _ _ _ (by omega), setI_slot _ _ _ _ (by omega), setI_slot _ _ _ _ (by omega), setI_slot _ _ _ _ (by omega)]
      exact h4
    · rw [setI_slot _ _ _ _ (by omega), setI_same]
    · rw [setI_slot _ _ _ _ (by omega), setI_slot _ _ _ _ (by omega), setI_slot _ _ _ _ (by omega), setI_same]
  · obtain ⟨b7, b8⟩ := b6 (by omega)
    have hn0 : ¬ nI b = 0 := nI_ne0 (by omega) (by omega)
    by_cases hb8 : b = 8
    · subst hb8
      have hr' : wR (setI S 66 5 (nI 9)) S' w := hr.set (by omega)
      obtain ⟨S1, S2, a1, a2, a3, a4, a5, a6, a7⟩ := add_gets (v := nI x + (256 : Int32) * nI d) (p := y7) hw hr'
      refine ⟨setI S1 66 5 0, S2, w + 1, 0, 0, y7, ?_, fun k65 => ?_, (cF.set.tr a3).tr cF.set, a4, ?_, a6, by omega, a7.set (by omega), ⟨?_, Or.inr ⟨rfl, 0, 0, by omega, by omega, setI_same _ _ _ _, rfl, rfl, fun z => absurd z (by omega)⟩⟩⟩
      · rw [if_neg hn0]
        simp only [bnd]
        rw [show nI 8 + (1 : Int32) = nI 9 from rfl, setI_same, if_pos (show (8 : Int32) < nI 9 by decide), setI_slot _ _ _ _ (by omega), setI_slot _ _ _ _ (by omega), b7, b8, a1, mBind_of]
      · rw [if_neg hn0]
        unfold f_X12_wires_239
        rw [if_pos (show (8 : Int32) ≤ nI 8 by decide), a2, mBind_of]
        simp only [bnd, nI_1]
      · rw [setI_slot _ _ _ _ (by omega), a5 3 (by omega), setI_slot _ _ _ _ (by omega)]
      · rw [setI_slot _ _ _ _ (by omega), a5 4 (by omega), setI_slot _ _ _ _ (by omega)]
        exact h4
    · have hx : x < 256 := Nat.lt_of_lt_of_le b2 (Nat.le_trans (Nat.pow_le_pow_right (by omega) (show b ≤ 8 by omega)) (by decide))
      have hx2 : 2 * x + d < 2 ^ (b + 1) := by rw [Nat.pow_succ]; omega
      refine ⟨setI (setI S 66 5 (nI (b + 1))) 66 6 (nI (2 * x + d)), S', w, nI (b + 1), nI (2 * x + d), y7, ?_, fun k65 => ?_, cF.set.tr cF.set, rF.rfl, ?_, rfl, by omega, (hr.set (by omega)).set (by omega), ⟨?_, Or.inr ⟨rfl, b + 1, 2 * x + d, by omega, hx2, ?_, rfl, rfl, fun _ => ⟨setI_same _ _ _ _, ?_⟩⟩⟩⟩
      · rw [if_neg hn0]
        simp only [bnd]
        rw [nI_1, setI_same, if_neg (show ¬ (8 : Int32) < nI (b + 1) from nI_nlt (b := b + 1) (a := 8) (by omega) (by omega)), setI_slot _ _ _ _ (by omega), b7, tw]
      · rw [if_neg hn0]
        unfold f_X12_wires_239
        rw [if_neg (show ¬ (8 : Int32) ≤ nI b from nI_ge (b := 8) (by omega) (by omega)), sh hx]
        simp only [bnd, nI_1]
      · rw [setI_slot _ _ _ _ (by omega), setI_slot _ _ _ _ (by omega)]
      · rw [setI_slot _ _ _ _ (by omega), setI_slot _ _ _ _ (by omega)]
        exact h4
      · rw [setI_slot _ _ _ _ (by omega), setI_same]
      · rw [setI_slot _ _ _ _ (by omega), setI_slot _ _ _ _ (by omega)]
        exact b8
theorem start_stop {S : mM} {p : Int32} (r : Int32) (hr : r = 0 ∨ r = 1) (y5 y6 y7 y4 : Int32) (hb : wB S y4 y5 y6 y7) : ∃ S1, f_X10_startOrStop r p S = some ((), S1) ∧ (∀ b, b ≠ 66 → S1.1 b = S.1 b) ∧ S1.2 = S.2 ∧ S1.1 66 2 = S.1 66 2 ∧
    S1.1 66 3 = (if r = 1 ∧ (y4 = 0 ∨ ¬ y5 ≤ 1) then p else S.1 66 3) ∧ S1.1 66 4 = (if r = 0 then 1 else 0) ∧ S1.1 66 5 = 0 := by
  have h24 : ∀ T : mM, ∃ S1, f_X10_startOrStop_24 r T = some ((), S1) ∧ (∀ b, b ≠ 66 → S1.1 b = T.1 b) ∧ S1.2 = T.2 ∧ (∀ j, j ≠ 4 → j ≠ 5 → S1.1 66 j = T.1 66 j) ∧ S1.1 66 4 = (if r = 0 then 1 else 0) ∧ S1.1 66 5 = 0 := fun T => by
    unfold f_X10_startOrStop_24
    by_cases z : r = 0
    · rw [if_pos z, if_pos z]
      exact ⟨_, rfl, fun b q => by rw [setI_row _ _ _ _ q, setI_row _ _ _ _ q], rfl, fun j q1 q2 => by rw [setI_slot _ _ _ _ q2, setI_slot _ _ _ _ q1], by rw [setI_slot _ _ _ _ (by omega), setI_same], setI_same _ _ _ _⟩
    · rw [if_neg z, if_neg z]
      exact ⟨_, rfl, fun b q => by rw [setI_row _ _ _ _ q, setI_row _ _ _ _ q], rfl, fun j q1 q2 => by rw [setI_slot _ _ _ _ q2, setI_slot _ _ _ _ q1], by rw [setI_slot _ _ _ _ (by omega), setI_same], setI_same _ _ _ _⟩
  have hno : ¬ (r = 1 ∧ (y4 = 0 ∨ ¬ y5 ≤ 1)) → ∃ S1, f_X10_startOrStop_24 r S = some ((), S1) ∧ (∀ b, b ≠ 66 → S1.1 b = S.1 b) ∧ S1.2 = S.2 ∧ S1.1 66 2 = S.1 66 2 ∧
      S1.1 66 3 = (if r = 1 ∧ (y4 = 0 ∨ ¬ y5 ≤ 1) then p else S.1 66 3) ∧ S1.1 66 4 = (if r = 0 then 1 else 0) ∧ S1.1 66 5 = 0 := fun z => by
    obtain ⟨S1, a1, a2, a2', a3, a4, a5⟩ := h24 S
    exact ⟨S1, a1, a2, a2', a3 2 (by omega) (by omega), by rw [if_neg z]; exact a3 3 (by omega) (by omega), a4, a5⟩
  have hyes : (r = 1 ∧ (y4 = 0 ∨ ¬ y5 ≤ 1)) → ∃ S1, f_X10_startOrStop_19 r p S = some ((), S1) ∧ (∀ b, b ≠ 66 → S1.1 b = S.1 b) ∧ S1.2 = S.2 ∧ S1.1 66 2 = S.1 66 2 ∧
      S1.1 66 3 = (if r = 1 ∧ (y4 = 0 ∨ ¬ y5 ≤ 1) then p else S.1 66 3) ∧ S1.1 66 4 = (if r = 0 then 1 else 0) ∧ S1.1 66 5 = 0 := fun z => by
    obtain ⟨S1, a1, a2, a2', a3, a4, a5⟩ := h24 (setI S 66 3 p)
    exact ⟨S1, a1, fun b q => by rw [a2 b q, setI_row _ _ _ _ q], a2', by rw [a3 2 (by omega) (by omega), setI_slot _ _ _ _ (by omega)], by rw [if_pos z, a3 3 (by omega) (by omega), setI_same], a4, a5⟩
  unfold f_X10_startOrStop
  rcases hr with rfl | rfl
  · rw [if_pos rfl]
    exact hno (fun z => absurd z.1 (by decide))
  · rw [if_neg (by decide), hb.1]
    by_cases z : y4 = 0
    · rw [if_pos z]
      exact hyes ⟨rfl, Or.inl z⟩
    · rw [if_neg z]
      obtain ⟨-, h0 | ⟨-, b, x, b1, b2, b3, b4, -, -⟩⟩ := hb
      · exact absurd h0 z
      rw [b3]
      by_cases u : b < 2
      · rw [if_pos (show nI b < (2 : Int32) from nI_lt (b := 2) u (by omega))]
        refine hno (fun v => ?_)
        rcases v.2 with v | v
        · exact z v
        · exact v (by rw [b4]; exact nI_le (b := 1) (by omega) (by omega))
      · rw [if_neg (show ¬ nI b < (2 : Int32) from nI_nlt (b := 2) (by omega) (by omega))]
        exact hyes ⟨rfl, Or.inr (by rw [b4]; exact nI_ge (a := 1) (by omega) (by omega))⟩
theorem wires_loop {k L : Nat} {V : Nat → Int32} {ct dt : Int32} (hk : k < 8) (hL : L ≤ 201) :
    ∀ (m i f f' : Nat) (S S' : mM) (w : Nat) (y4 y5 y6 y7 : Int32), L ≤ i + m → 1 ≤ i → i ≤ 300 → m < f → m < f' → w ≤ 20 → cE S k L V → rE S' k L V → wR S S' w → S.1 66 3 = S'.1 69 51 → wB S y4 y5 y6 y7 →
    ∃ S1 S2 w2, w2 ≤ 20 ∧ f_X10_readTwo_7 f (12 + 2 * k) ct dt (nI i) S = some ((), S1) ∧ f_X12_wires_65 f' (nI k) ct dt y4 y5 y6 y7 (nI i) S' = some (nI w2, S2) ∧ cF S S1 ∧ rF S' S2 ∧ wR S1 S2 w2 ∧ S1.1 66 3 = S2.1 69 51 := by
  intro m
  have k8 : 0 ≤ nI k ∧ (nI k).toNatClampNeg < 8 := ix (by omega) (by omega)
  have ck : (nI k).toNatClampNeg = k := nI_clamp (by omega)
  induction m with
  | zero =>
    intro i f f' S S' w y4 y5 y6 y7 hm hi0 hi hf hf' hw h h' hr c hb
    obtain ⟨f, rfl⟩ : ∃ g, f = g + 1 := ⟨f - 1, by omega⟩
    obtain ⟨f', rfl⟩ : ∃ g, f' = g + 1 := ⟨f' - 1, by omega⟩
    refine ⟨S, S', w, hw, ?_, ?_, cF.rfl, rF.rfl, hr, c⟩
    · unfold f_X10_readTwo_7
      rw [h.1, if_pos (nI_le (by omega) (by omega))]
    · unfold f_X12_wires_65
      rw [if_pos k8, ck, h'.1, if_pos (nI_le (by omega) (by omega)), hr.2.1]
  | succ m ih =>
    intro i f f' S S' w y4 y5 y6 y7 hm hi0 hi hf hf' hw h h' hr c hb
    obtain ⟨f, rfl⟩ : ∃ g, f = g + 1 := ⟨f - 1, by omega⟩
    obtain ⟨f', rfl⟩ : ∃ g, f' = g + 1 := ⟨f' - 1, by omega⟩
    by_cases hx : L ≤ i
    · refine ⟨S, S', w, hw, ?_, ?_, cF.rfl, rF.rfl, hr, c⟩
      · unfold f_X10_readTwo_7
        rw [h.1, if_pos (nI_le hx (by omega))]
      · unfold f_X12_wires_65
        rw [if_pos k8, ck, h'.1, if_pos (nI_le hx (by omega)), hr.2.1]
    have gL : ¬ nI L ≤ nI i := nI_ge (by omega) (by omega)
    by_cases hw20 : w = 20
    · subst hw20
      refine ⟨S, S', 20, hw, ?_, ?_, cF.rfl, rF.rfl, hr, c⟩
      · unfold f_X10_readTwo_7
        rw [h.1, if_neg gL, hr.1, if_pos (show (20 : Int32) ≤ nI 20 from Int32.le_refl _)]
      · unfold f_X12_wires_65
        rw [if_pos k8, ck, h'.1, if_neg gL, hr.2.1, if_pos (show (20 : Int32) ≤ nI 20 from Int32.le_refl _)]
    have g20 : ¬ (20 : Int32) ≤ nI w := nI_ge (b := 20) (by omega) (by omega)
    by_cases hf4 : S'.1 69 51 = -4
    case neg =>
      refine ⟨S, S', w, hw, ?_, ?_, cF.rfl, rF.rfl, hr, c⟩
      · unfold f_X10_readTwo_7
        rw [h.1, if_neg gL, hr.1, if_neg g20, c, if_neg hf4]
      · unfold f_X12_wires_65
        rw [if_pos k8, ck, h'.1, if_neg gL, hr.2.1, if_neg g20, if_neg hf4]
    have ep : nI i - (1 : Int32) = nI (i - 1) := nI_sub (b := 1) (by omega)
    have nx : ∀ (T T' : mM) (u : Nat) (x4 x5 x6 x7 : Int32), cF S T → rF S' T' → u ≤ 20 → wR T T' u → T.1 66 3 = T'.1 69 51 → wB T x4 x5 x6 x7 →
        ∃ S1 S2 w2, w2 ≤ 20 ∧ f_X10_readTwo_7 f (12 + 2 * k) ct dt (nI (i + 1)) T = some ((), S1) ∧ f_X12_wires_65 f' (nI k) ct dt x4 x5 x6 x7 (nI (i + 1)) T' = some (nI w2, S2) ∧ cF S S1 ∧ rF S' S2 ∧ wR S1 S2 w2 ∧ S1.1 66 3 = S2.1 69 51 := fun T T' u x4 x5 x6 x7 a1 a2 a3 a4 a5 a6 => by
      obtain ⟨S1, S2, w2, e0, e1, e2, e3, e4, e5, e6⟩ := ih (i + 1) f f' T T' u x4 x5 x6 x7 (by omega) (by omega) (by omega) (by omega) (by omega) a3 (a1.en hk h) (a2.en h') a4 a5 a6
      exact ⟨S1, S2, w2, e0, e1, e2, a1.tr e3, a2.tr e4, e5, e6⟩
    have nx0 := nx S S' w y4 y5 y6 y7 cF.rfl rF.rfl hw hr c hb
    unfold f_X10_readTwo_7 f_X12_wires_65
    rw [h.1, if_neg gL, hr.1, if_neg g20, c, if_pos hf4, isOne_eq hk hL h (by omega), mBind_of, isOne_eq hk hL h (by omega), mBind_of, ep, isOne_eq hk hL h (by omega), mBind_of, isOne_eq hk hL h (by omega), mBind_of,
      if_pos k8, ck, h'.1, if_neg gL, hr.2.1, if_neg g20, if_pos hf4, bit_eq hk hL h' (by omega), mBind_of, bit_eq hk hL h' (by omega), mBind_of, bit_eq hk hL h' (by omega), mBind_of, bit_eq hk hL h' (by omega), mBind_of]
    rcases ob_01 ct V i with o1 | o1
    · rw [o1]
      unfold f_X12_wires_169 f_X12_wires_211
      simp only [z01, if_false, if_true, bnd, nI_1]
      exact nx0
    · rcases ob_01 ct V (i - 1) with o2 | o2
      · rw [o1, o2]
        unfold f_X12_wires_169 f_X12_wires_211
        simp only [z01, z10, if_false, if_true, bnd, nI_1]
        have hbb := hb
        obtain ⟨h4, rfl | ⟨rfl, -⟩⟩ := hb
        · have t0 : ∀ d, f_X10_takeBit d (nI i) S = some ((), S) := fun d => by
            unfold f_X10_takeBit
            rw [if_pos h4]
          rw [t0, t0, mBind_of, if_pos rfl]
          by_cases o3 : ob dt V i = 0
          · rw [if_pos o3]
            exact nx0
          · rw [if_neg o3]
            exact nx0
        · obtain ⟨S1, S2, w', x5, x6, x7, a1, a2, a3, a4, a5, a6, a7, a8, a9⟩ := take_bit (i := i) (y1 := nI k) (y2 := ct) (y3 := dt) (ob_01 dt V i) (by omega) hr hbb
          rw [if_neg (show ¬ (1 : Int32) = 0 by decide), a2]
          have nx1 := nx S1 S2 w' 1 x5 x6 x7 a3 a4 a7 a8 (by rw [a5, a6]; exact c) a9
          rcases ob_01 dt V i with o3 | o3
          · rw [o3] at a1
            rw [if_pos o3, a1, mBind_of]
            exact nx1
          · rw [o3] at a1
            rw [if_neg (by rw [o3]; decide), a1, mBind_of]
            exact nx1
      · rw [o1, o2]
        simp only [z10, if_false, if_true]
        obtain ⟨S1, a1, a2, a2', a3, a4, a5, a6⟩ := start_stop (p := nI i) (ob dt V i) (ob_01 dt V i) y5 y6 y7 y4 hb
        have hr1 : wR S1 S' w := ⟨by rw [a3]; exact hr.1, hr.2.1, fun j hj => by rw [a2 67 (by omega), a2 68 (by omega)]; exact hr.2.2 j hj⟩
        have hc1 : cF S S1 := ⟨fun b q1 _ _ => a2 b q1, a2'⟩
        rcases ob_01 dt V i with o3 | o3 <;> rcases ob_01 dt V (i - 1) with o4 | o4
        · rw [o3, o4]
          unfold f_X12_wires_169 f_X12_wires_211
          simp only [z00, z10, if_false, if_true, bnd, nI_1]
          exact nx0
        · rw [o3] at a1 a4 a5
          rw [if_neg (fun z => absurd z.1 (by decide))] at a4
          rw [if_pos rfl] at a5
          rw [o3, o4]
          simp only [z01, zl10, if_false, if_true, a1, mBind_of, bnd, nI_1]
          exact nx S1 S' w 1 0 0 y7 hc1 rF.rfl hw hr1 (by rw [a4]; exact c) ⟨a5, Or.inr ⟨rfl, 0, 0, by omega, by omega, a6, rfl, rfl, fun z => absurd z (by omega)⟩⟩
        · rw [o3] at a1 a4 a5
          rw [if_neg (by decide)] at a5
          rw [o3, o4]
          unfold f_X12_wires_169 f_X12_wires_199
          simp only [z10, zl01, zl10, if_false, if_true, a1, mBind_of, bnd, nI_1]
          have hyes : (y4 = 0 ∨ ¬ y5 ≤ 1) → ∃ S1_1 S2 w2, w2 ≤ 20 ∧ f_X10_readTwo_7 f (12 + 2 * k) ct dt (nI (i + 1)) S1 = some ((), S1_1) ∧ f_X12_wires_65 f' (nI k) ct dt 0 y5 y6 y7 (nI (i + 1)) (setI S' 69 51 (nI i)) = some (nI w2, S2) ∧ cF S S1_1 ∧ rF S' S2 ∧ wR S1_1 S2 w2 ∧ S1_1.1 66 3 = S2.1 69 51 := fun z => by
            rw [if_pos ⟨rfl, z⟩] at a4
            refine nx S1 (setI S' 69 51 (nI i)) w 0 y5 y6 y7 hc1 ⟨fun b q1 _ _ => setI_row _ _ _ _ q1, fun j _ q2 => setI_slot _ _ _ _ q2 _, rfl⟩ hw ⟨hr1.1, by rw [setI_slot _ _ _ _ (by omega)]; exact hr1.2.1, fun j hj => by rw [setI_row _ _ _ _ (by omega), setI_row _ _ _ _ (by omega)]; exact hr1.2.2 j hj⟩ (by rw [a4, setI_same]) ⟨a5, Or.inl rfl⟩
          by_cases y40 : y4 = 0
          · rw [if_pos y40]
            exact hyes (Or.inl y40)
          · rw [if_neg y40]
            by_cases y51 : y5 ≤ 1
            · rw [if_pos y51]
              rw [if_neg (fun z => by rcases z.2 with u | u; exact y40 u; exact u y51)] at a4
              exact nx S1 S' w 0 y5 y6 y7 hc1 rF.rfl hw hr1 (by rw [a4]; exact c) ⟨a5, Or.inl rfl⟩
            · rw [if_neg y51]
              exact hyes (Or.inr y51)
        · rw [o3, o4]
          unfold f_X12_wires_169 f_X12_wires_211
          simp only [z11, z10, if_false, if_true, bnd, nI_1]
          exact nx0
theorem ag_wires (c : Nat) (q t u : Int32) : Ag c (f_X11_wires q t u) (f_X12_wires q t u) := fun _ S h => by
  obtain ⟨ns, hns, s1, s2, s3, s4⟩ := h.2.2.2.1
  unfold f_X11_wires f_X12_wires
  rw [hasTrace_eq hns s1, mBind_of]
  simp only [isTrace_eq, in_eq, mBind_of, b01, l0, l3]
  by_cases hq : ∃ k, k < ns ∧ q = nI k
  · by_cases ht : 0 ≤ t ∧ t ≤ 3
    · by_cases hn : 0 ≤ u ∧ u ≤ 3
      · by_cases hne : t = u
        · refine ⟨-1, S, S, ?_, ?_, h.mono (by omega)⟩
          · rw [if_nn ⟨hq, ht⟩, if_nn hn, if_pos hne]
          · rw [isSeg hns s2, mBind_of, if_neg (fun z => b01.mp z hq), if_nn ht, if_nn hn, if_pos hne]
        have hq' := hq
        obtain ⟨k, hk, rfl⟩ := hq
        obtain ⟨-, a2, -, L, n1, n2, n3, n4⟩ := s4 k hk
        rw [if_nn ⟨hq', ht⟩, if_nn hn, if_neg hne, store_get hns s1 hk, mBind_of, if_pos (kseg (by omega))]
        generalize hT : setI (setI (setI (setI S 66 2 (0 : Int32)) 66 3 (-4 : Int32)) 66 4 (0 : Int32)) 66 5 (0 : Int32) = T
        have hTr : ∀ b, b ≠ 66 → T.1 b = S.1 b := fun b hb => by rw [← hT, setI_row _ _ _ _ hb, setI_row _ _ _ _ hb, setI_row _ _ _ _ hb, setI_row _ _ _ _ hb]
        have hT2 : T.2 = S.2 := by rw [← hT]; rfl
        have t2 : T.1 66 2 = nI 0 := by rw [← hT, setI_slot _ _ _ _ (by omega), setI_slot _ _ _ _ (by omega), setI_slot _ _ _ _ (by omega), setI_same]; rfl
        have t3 : T.1 66 3 = -4 := by rw [← hT, setI_slot _ _ _ _ (by omega), setI_slot _ _ _ _ (by omega), setI_same]
        have t4 : T.1 66 4 = 0 := by rw [← hT, setI_slot _ _ _ _ (by omega), setI_same]
        have hE : cE T k L (S.1 (13 + 2 * k)) := ⟨by rw [hTr _ (by omega), a2]; exact n3, fun i _ => by rw [hTr _ (by omega)]⟩
        have key : ∀ S', rE S' k L (S.1 (13 + 2 * k)) → S'.1 69 48 = nI 0 → S'.1 69 51 = -4 → ∃ S1 S2 w2, w2 ≤ 20 ∧ f_X10_readTwo_7 mFuel (12 + 2 * k) t u (nI 1) T = some ((), S1) ∧ f_X12_wires_65 mFuel (nI k) t u 0 0 0 0 (nI 1) S' = some (nI w2, S2) ∧ cF T S1 ∧ rF S' S2 ∧ wR S1 S2 w2 ∧ S1.1 66 3 = S2.1 69 51 := fun S' h1 h2 h3 =>
          wires_loop (by omega) n2 201 1 mFuel mFuel T S' 0 0 0 0 0 (by omega) (by omega) (by omega) (by unfold mFuel; omega) (by unfold mFuel; omega) (by omega) hE h1 ⟨t2, h2, fun i hi => absurd hi (by omega)⟩ (by rw [t3, h3]) ⟨t4, Or.inl rfl⟩
        have rr : ∀ S1, cF T S1 → rE (setI (setI S1 69 48 (0 : Int32)) 69 51 (-4 : Int32)) k L (S.1 (13 + 2 * k)) := fun S1 z => by
          refine ⟨?_, fun i hi => ?_⟩
          · rw [setI_row _ _ _ _ (by omega), setI_row _ _ _ _ (by omega), z.1 _ (by omega) (by omega) (by omega), hTr _ (by omega)]
            exact n3
          · rw [setI_row _ _ _ _ (by omega), setI_row _ _ _ _ (by omega), z.1 _ (by omega) (by omega) (by omega), hTr _ (by omega)]
            exact (n4 i hi).symm
        obtain ⟨S1, -, -, -, x1, -, x2, -⟩ := key (setI (setI T 69 48 (0 : Int32)) 69 51 (-4 : Int32)) (rr T cF.rfl) (by rw [setI_slot _ _ _ _ (by omega), setI_same]; rfl) (setI_same _ _ _ _)
        obtain ⟨S1', S2, w2, y0, y1, y2, y3, y4, y5, y6⟩ := key (setI (setI S1 69 48 (0 : Int32)) 69 51 (-4 : Int32)) (rr S1 x2) (by rw [setI_slot _ _ _ _ (by omega), setI_same]; rfl) (setI_same _ _ _ _)
        have eS : S1' = S1 := by
          rw [x1] at y1
          exact (congrArg Prod.snd (Option.some.inj y1)).symm
        subst eS
        have fr : ∀ b, b ≠ 69 → b ≠ 96 → b ≠ 97 → S2.1 b = S1'.1 b := fun b q1 q2 q3 => by rw [y4.1 b q1 q2 q3, setI_row _ _ _ _ q1, setI_row _ _ _ _ q1]
        refine ⟨nI w2, S1', S2, ?_, ?_, h.wire (fun b q1 q2 q3 q4 q5 q6 => ?_) (fun j q1 q2 => ?_) ?_ ⟨?_, w2, y0, ?_, y5.2.1, fun i hi => ?_⟩⟩
        · unfold f_X10_readTwo f_X10_clear
          simp only [bnd, mBind_of]
          rw [hT]
          have y1 : f_X10_readTwo_7 mFuel (12 + 2 * k) t u 1 T = some ((), S1') := y1
          rw [y1, mBind_of, y5.1]
        · rw [isSeg hns (show S1'.1 69 34 = nI ns by rw [y3.1 _ (by omega) (by omega) (by omega), hTr _ (by omega)]; exact s2), mBind_of, if_neg (fun z => b01.mp z hq'), if_nn ht, if_nn hn, if_neg hne]
          exact y2
        · rw [fr b q4 q5 q6, y3.1 b q1 q2 q3, hTr b q1]
        · rw [y4.2.1 j q1 q2, setI_slot _ _ _ _ q2, setI_slot _ _ _ _ q1, y3.1 _ (by omega) (by omega) (by omega), hTr _ (by omega)]
        · rw [y4.2.2, setI_2, setI_2, y3.2, hT2]
        · rw [fr 66 (by omega) (by omega) (by omega)]
          exact y6
        · rw [fr 66 (by omega) (by omega) (by omega)]
          exact y5.1
        · rw [fr 67 (by omega) (by omega) (by omega), fr 68 (by omega) (by omega) (by omega)]
          exact y5.2.2 i hi
      · refine ⟨-1, S, S, ?_, ?_, h.mono (by omega)⟩
        · rw [if_nn ⟨hq, ht⟩, if_pos hn]
        · rw [isSeg hns s2, mBind_of, if_neg (fun z => b01.mp z hq), if_nn ht, if_pos hn]
    · refine ⟨-1, S, S, ?_, ?_, h.mono (by omega)⟩
      · rw [if_pos (fun z => ht z.2)]
      · rw [isSeg hns s2, mBind_of, if_neg (fun z => b01.mp z hq), if_pos ht]
  · refine ⟨-1, S, S, ?_, ?_, h.mono (by omega)⟩
    · rw [if_pos (fun z => hq z.1)]
    · rw [isSeg hns s2, mBind_of, if_pos (b01.mpr hq)]
