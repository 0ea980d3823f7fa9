/-! PURE: bytes -/
def cE (S : mM) (k L : Nat) (V : Nat → Int32) : Prop := S.1 (12 + 2 * k) 2 = nI L ∧ ∀ i, i < L → S.1 (13 + 2 * k) i = V i
def rE (S : mM) (k L : Nat) (V : Nat → Int32) : Prop := S.1 85 k = nI L ∧ ∀ i, i < L → S.1 87 (201 * k + i) = V i
def ob (t : Int32) (V : Nat → Int32) (i : Nat) : Int32 := if nb t (V i) < 0 then 0 else 1
theorem ob_01 (t : Int32) (V : Nat → Int32) (i : Nat) : ob t V i = 0 ∨ ob t V i = 1 := by
  unfold ob
  by_cases h : nb t (V i) < 0
  · exact Or.inl (if_pos h)
  · exact Or.inr (if_neg h)
theorem isOne_eq {S : mM} {k L i : Nat} {V : Nat → Int32} {t : Int32} (hk : k < 8) (hL : L ≤ 201) (h : cE S k L V) (hi : i < L) : f_X5_isOne (12 + 2 * k) t (nI i) S = some (ob t V i, S) := by
  unfold f_X5_isOne ob
  rw [seg_at hk hL h.1 hi, mBind_of, h.2 i hi]
  by_cases q : nb t (V i) < 0
  · rw [if_pos q, if_pos q]
  · rw [if_neg q, if_neg q]
theorem bit_eq {S : mM} {k L i : Nat} {V : Nat → Int32} {t : Int32} (hk : k < 8) (hL : L ≤ 201) (h : rE S k L V) (hi : i < L) : f_X12_bit (nI k) t (nI i) S = some (ob t V i, S) := by
  unfold f_X12_bit ob
  rw [val_at hk (by omega), mBind_of, h.2 i hi]
  by_cases q : nb t (V i) < 0
  · rw [if_neg (Int32.not_le.mpr q), if_pos q]
  · rw [if_pos (Int32.not_lt.mp q), if_neg q]
/-- what the wires told, class against reference; what they may change -/
def wR (S S' : mM) (n : Nat) : Prop := S.1 66 2 = nI n ∧ S'.1 69 48 = nI n ∧ ∀ i, i < n → S.1 67 i = S'.1 96 i ∧ S.1 68 i = S'.1 97 i
def cF (S S1 : mM) : Prop := (∀ b, b ≠ 66 → b ≠ 67 → b ≠ 68 → S1.1 b = S.1 b) ∧ S1.2 = S.2
def rF (S S1 : mM) : Prop := (∀ b, b ≠ 69 → b ≠ 96 → b ≠ 97 → S1.1 b = S.1 b) ∧ (∀ j, j ≠ 48 → j ≠ 51 → S1.1 69 j = S.1 69 j) ∧ S1.2 = S.2
theorem cF.rfl {S : mM} : cF S S := ⟨fun _ _ _ _ => Eq.refl _, Eq.refl _⟩
theorem rF.rfl {S : mM} : rF S S := ⟨fun _ _ _ _ => Eq.refl _, fun _ _ _ => Eq.refl _, Eq.refl _⟩
theorem cF.tr {S S1 S2 : mM} (h : cF S S1) (k : cF S1 S2) : cF S S2 := ⟨fun b q1 q2 q3 => (k.1 b q1 q2 q3).trans (h.1 b q1 q2 q3), k.2.trans h.2⟩
theorem rF.tr {S S1 S2 : mM} (h : rF S S1) (k : rF S1 S2) : rF S S2 := ⟨fun b q1 q2 q3 => (k.1 b q1 q2 q3).trans (h.1 b q1 q2 q3), fun j q1 q2 => (k.2.1 j q1 q2).trans (h.2.1 j q1 q2), k.2.2.trans h.2.2⟩
theorem cF.en {S S1 : mM} {k L : Nat} {V : Nat → Int32} (hk : k < 8) (h : cF S S1) (e : cE S k L V) : cE S1 k L V := by
  unfold cE at e ⊢
  rw [h.1 _ (by omega) (by omega) (by omega), h.1 _ (by omega) (by omega) (by omega)]
  exact e
theorem rF.en {S S1 : mM} {k L : Nat} {V : Nat → Int32} (h : rF S S1) (e : rE S k L V) : rE S1 k L V := by
  unfold rE at e ⊢
  rw [h.1 _ (by omega) (by omega) (by omega), h.1 _ (by omega) (by omega) (by omega)]
  exact e
theorem add_gets {S S' : mM} {n : Nat} {v p : Int32} (hn : n < 20) (h : wR S S' n) : ∃ S1 S2, f_X10_add v p S = some ((), S1) ∧ f_X12_gets v p S' = some ((), S2) ∧ cF S S1 ∧ rF S' S2 ∧ (∀ j, j ≠ 2 → S1.1 66 j = S.1 66 j) ∧ S2.1 69 51 = S'.1 69 51 ∧ wR S1 S2 (n + 1) := by
  obtain ⟨h1, h2, h3⟩ := h
  have i20 : 0 ≤ nI n ∧ (nI n).toNatClampNeg < 20 := ix hn (by omega)
  have i20c : 0 ≤ nI n ∧ n < 20 := ixc hn (by omega)
  have cn : (nI n).toNatClampNeg = n := nI_clamp (by omega)
  refine ⟨setI (setI (setI S 67 n v) 68 n p) 66 2 (nI (n + 1)), setI (setI (setI S' 96 n v) 97 n p) 69 48 (nI (n + 1)), ?_, ?_, ⟨fun b q1 q2 q3 => ?_, rfl⟩, ⟨fun b q1 q2 q3 => ?_, fun j q1 q2 => ?_, rfl⟩, fun j hj => ?_, ?_, setI_same _ _ _ _, setI_same _ _ _ _, fun i hi => ?_⟩
  · unfold f_X10_add
    have g1 : (setI S 67 n v).1 66 2 = nI n := by rw [setI_row _ _ _ _ (by omega)]; exact h1
    have g2 : (setI (setI S 67 n v) 68 n p).1 66 2 = nI n := by rw [setI_row _ _ _ _ (by omega)]; exact g1
    rw [h1, if_neg (show ¬ (20 : Int32) ≤ nI n from nI_ge (b := 20) hn (by omega)), if_pos i20, cn]
    simp only [bnd, g1, g2, cn, if_pos i20, if_pos i20c, nI_1]
  · unfold f_X12_gets
    have g1 : (setI S' 96 n v).1 69 48 = nI n := by rw [setI_row _ _ _ _ (by omega)]; exact h2
    have g2 : (setI (setI S' 96 n v) 97 n p).1 69 48 = nI n := by rw [setI_row _ _ _ _ (by omega)]; exact g1
    rw [h2, if_pos i20, cn]
    simp only [bnd, g1, g2, cn, if_pos i20, if_pos i20c, nI_1]
  · rw [setI_row _ _ _ _ q1, setI_row _ _ _ _ q3, setI_row _ _ _ _ q2]
  · rw [setI_row _ _ _ _ q1, setI_row _ _ _ _ q3, setI_row _ _ _ _ q2]
  · rw [setI_slot _ _ _ _ q1, setI_row _ _ _ _ (by omega), setI_row _ _ _ _ (by omega)]
  · rw [setI_slot _ _ _ _ hj, setI_row _ _ _ _ (by omega), setI_row _ _ _ _ (by omega)]
  · rw [setI_slot _ _ _ _ (by omega), setI_row _ _ _ _ (by omega), setI_row _ _ _ _ (by omega)]
  · have a1 : (setI (setI (setI S 67 n v) 68 n p) 66 2 (nI (n + 1))).1 67 i = if i = n then v else S.1 67 i := by
      rw [setI_row _ _ _ _ (by omega), setI_row _ _ _ _ (by omega), setI_1]
      simp only [true_and]
    have a2 : (setI (setI (setI S 67 n v) 68 n p) 66 2 (nI (n + 1))).1 68 i = if i = n then p else S.1 68 i := by
      rw [setI_row _ _ _ _ (by omega), setI_1, setI_row _ _ _ _ (by omega)]
      simp only [true_and]
    have a3 : (setI (setI (setI S' 96 n v) 97 n p) 69 48 (nI (n + 1))).1 96 i = if i = n then v else S'.1 96 i := by
      rw [setI_row _ _ _ _ (by omega), setI_row _ _ _ _ (by omega), setI_1]
      simp only [true_and]
    have a4 : (setI (setI (setI S' 96 n v) 97 n p) 69 48 (nI (n + 1))).1 97 i = if i = n then p else S'.1 97 i := by
      rw [setI_row _ _ _ _ (by omega), setI_1, setI_row _ _ _ _ (by omega)]
      simp only [true_and]
    rw [a1, a2, a3, a4]
    by_cases e : i = n
    · simp only [if_pos e, and_self]
    · simp only [if_neg e]
      exact h3 i (by omega)
theorem bytes_in {S S' : mM} {k L p n : Nat} {V : Nat → Int32} {t : Int32} {k50 : Int32 → Int32 → Int32 → Int32 → mM → Option (Int32 × mM)} (hk : k < 8) (hL : L ≤ 201) (h : cE S k L V) (h' : rE S' k L V) (hp : p + n / 2 + 9 * n < L) :
    ∀ (m j f f' : Nat) (v : Int32), j + m = 8 → m < f → m < f' → ∃ R g, f_X10_byteBehind_6 f (12 + 2 * k) t (nI (p + n / 2)) (nI n) v (nI j) S = some (R, S) ∧ f_X12_bytes_151 f' k50 (nI k) t (nI n) (nI p) v (nI (j + 1)) S' = f_X12_bytes_151 (g + 1) k50 (nI k) t (nI n) (nI p) R 9 S'
  | 0, j, f + 1, f' + 1, v, hm, _, _ => by
    have e : j = 8 := by omega
    subst e
    exact ⟨v, f', by unfold f_X10_byteBehind_6; rw [if_pos (show (8 : Int32) ≤ nI 8 from nI_le (a := 8) (by omega) (by omega))], rfl⟩
  | m + 1, j, f + 1, f' + 1, v, hm, hf, hf' => by
    have hlt : p + n / 2 + n * (j + 1) < L := by
      have : n * (j + 1) ≤ n * 9 := Nat.mul_le_mul_left n (by omega)
      omega
    have e1 : nI (p + n / 2) + nI n * (nI j + (1 : Int32)) = nI (p + n / 2 + n * (j + 1)) := by rw [nI_1, nI_mul, nI_add]
    have e2 : nI p + nI n / (2 : Int32) + nI n * nI (j + 1) = nI (p + n / 2 + n * (j + 1)) := by
      rw [show nI n / (2 : Int32) = nI (n / 2) from nI_div (b := 2) (by omega) (by omega), nI_mul, nI_add, nI_add]
    have sR : f_X12_bytes_151 (f' + 1) k50 (nI k) t (nI n) (nI p) v (nI (j + 1)) S' = f_X12_bytes_151 f' k50 (nI k) t (nI n) (nI p) (v ||| (ob t V (p + n / 2 + n * (j + 1)) <<< (nI j &&& 31))) (nI (j + 1 + 1)) S' := by
      conv => lhs; unfold f_X12_bytes_151
      rw [if_neg (show ¬ (9 : Int32) ≤ nI (j + 1) from nI_ge (b := 9) (by omega) (by omega)), e2, bit_eq hk hL h' hlt, mBind_of]
      simp only [bnd, nI_1, nI_pred]
    rcases ob_01 t V (p + n / 2 + n * (j + 1)) with o | o
    · obtain ⟨R, g, k1, k2⟩ := bytes_in (k50 := k50) hk hL h h' hp m (j + 1) f f' v (by omega) (by omega) (by omega)
      refine ⟨R, g, ?_, ?_⟩
      · unfold f_X10_byteBehind_6
        rw [if_neg (show ¬ (8 : Int32) ≤ nI j from nI_ge (b := 8) (by omega) (by omega)), e1, isOne_eq hk hL h hlt, mBind_of, o, if_pos rfl]
        simp only [bnd, nI_1]
        exact k1
      · rw [sR, o, Int32.zero_shiftLeft, Int32.or_zero]
        exact k2
    · obtain ⟨R, g, k1, k2⟩ := bytes_in (k50 := k50) hk hL h h' hp m (j + 1) f f' (v ||| ((1 : Int32) <<< (nI j &&& 31))) (by omega) (by omega) (by omega)
      refine ⟨R, g, ?_, ?_⟩
      · unfold f_X10_byteBehind_6
        rw [if_neg (show ¬ (8 : Int32) ≤ nI j from nI_ge (b := 8) (by omega) (by omega)), e1, isOne_eq hk hL h hlt, mBind_of, o, if_neg (by decide)]
        simp only [bnd, nI_1]
        exact k1
      · rw [sR, o]
        exact k2
theorem bytes_loop {k L n : Nat} {V : Nat → Int32} {t : Int32} (hk : k < 8) (hL : L ≤ 201) (hn : n ≤ 16) :
    ∀ (m p f f' : Nat) (S S' : mM) (w : Nat), L ≤ p + m → p ≤ 300 → m < f → m < f' → w ≤ 20 → cE S k L V → rE S' k L V → wR S S' w → S.1 66 3 = -4 → S'.1 69 51 = -4 →
    ∃ S1 S2 w2, w2 ≤ 20 ∧ f_X10_readOne_21 f (12 + 2 * k) t (nI n) (nI (n / 2)) (nI (n / 2 + 9 * n)) (nI p) S = some ((), S1) ∧ f_X12_bytes_50 f' (nI k) t (nI n) (nI p) S' = some (nI w2, S2) ∧ cF S S1 ∧ rF S' S2 ∧ wR S1 S2 w2 ∧ S1.1 66 3 = S2.1 69 51 := by
  intro m
  have k8 : 0 ≤ nI k ∧ (nI k).toNatClampNeg < 8 := ix (by omega) (by omega)
  have ck : (nI k).toNatClampNeg = k := nI_clamp (by omega)
  have eh : nI n / (2 : Int32) = nI (n / 2) := nI_div (b := 2) (by omega) (by omega)
  have e9 : (9 : Int32) * nI n = nI (9 * n) := by rw [show (9 : Int32) = nI 9 from rfl, nI_mul]
  induction m with
  | zero =>
    intro p f f' S S' w hm hp hf hf' hw h h' hr c1 c2
    obtain ⟨f, rfl⟩ : ∃ g, f = g + 1 := ⟨f - 1, by omega⟩
    obtain ⟨f', rfl⟩ : ∃ g, f' = g + 1 := ⟨f' - 1, by omega⟩
    refine ⟨S, S', w, hw, ?_, ?_, cF.rfl, rF.rfl, hr, by rw [c1, c2]⟩
    · unfold f_X10_readOne_21
      rw [h.1, nI_add, if_pos (nI_le (by omega) (by omega))]
    · unfold f_X12_bytes_50
      rw [hr.2.1, c2, if_pos k8, ck, h'.1, eh, e9, nI_add, nI_add, if_pos rfl, if_pos (nI_le (by omega) (by omega)), ite_self]
  | succ m ih =>
    intro p f f' S S' w hm hp hf hf' hw h h' hr c1 c2
    obtain ⟨f, rfl⟩ : ∃ g, f = g + 1 := ⟨f - 1, by omega⟩
    obtain ⟨f', rfl⟩ : ∃ g, f' = g + 1 := ⟨f' - 1, by omega⟩
    by_cases hx : L ≤ p + (n / 2 + 9 * n)
    · refine ⟨S, S', w, hw, ?_, ?_, cF.rfl, rF.rfl, hr, by rw [c1, c2]⟩
      · unfold f_X10_readOne_21
        rw [h.1, nI_add, if_pos (nI_le hx (by omega))]
      · unfold f_X12_bytes_50
        rw [hr.2.1, c2, if_pos k8, ck, h'.1, eh, e9, nI_add, nI_add, if_pos rfl, if_pos (nI_le (by omega) (by omega)), ite_self]
    by_cases hw20 : w = 20
    · subst hw20
      refine ⟨S, S', 20, hw, ?_, ?_, cF.rfl, rF.rfl, hr, by rw [c1, c2]⟩
      · unfold f_X10_readOne_21
        rw [h.1, nI_add, if_neg (nI_ge (by omega) (by omega)), hr.1, if_pos (show (20 : Int32) ≤ nI 20 from Int32.le_refl _)]
      · unfold f_X12_bytes_50
        rw [hr.2.1, if_pos (show (20 : Int32) ≤ nI 20 from Int32.le_refl _)]
    have g20 : ¬ (20 : Int32) ≤ nI w := nI_ge (b := 20) (by omega) (by omega)
    have hpL : p < L := by omega
    have hhL : p + n / 2 < L := by omega
    have hlL : p + (n / 2 + 9 * n) < L := by omega
    have hlL' : p + n / 2 + 9 * n < L := by omega
    -- does a byte begin?
    obtain ⟨B, hB01, b1, b2⟩ : ∃ B : Int32, (B = 0 ∨ B = 1) ∧ f_X10_beginsByte (12 + 2 * k) t (nI p) (nI (n / 2)) S = some (B, S) ∧
        f_X12_bytes_50 (f' + 1) (nI k) t (nI n) (nI p) S' = f_X12_bytes_138 (f_X12_bytes_50 f') (nI k) t (nI n) (nI p) B S' := by
      have hb : ∀ z, f_X12_bytes_50 (f' + 1) (nI k) t (nI n) (nI p) S' = z ↔ (if ob t V p = 0 then
            if nI p = 0 then
              f_X12_bytes_118 (f_X12_bytes_50 f') (nI k) t (nI n) (nI p) S'
            else
              mBind (f_X12_bit (nI k) t (nI p - (1 : Int32)) S') fun r3 S4 =>
              if r3 = (1 : Int32) then
                f_X12_bytes_118 (f_X12_bytes_50 f') (nI k) t (nI n) (nI p) S4
              else
                f_X12_bytes_137 (f_X12_bytes_50 f') (nI k) t (nI n) (nI p) S4
          else
            f_X12_bytes_137 (f_X12_bytes_50 f') (nI k) t (nI n) (nI p) S') = z := by
        intro z
        conv => lhs; lhs; unfold f_X12_bytes_50
        rw [hr.2.1, if_neg g20, c2, if_pos rfl, if_pos k8, ck, h'.1, eh, e9, nI_add, nI_add, if_neg (nI_ge (by omega) (by omega)), bit_eq hk hL h' hpL, mBind_of]
      have h118 : f_X12_bytes_118 (f_X12_bytes_50 f') (nI k) t (nI n) (nI p) S' = f_X12_bytes_138 (f_X12_bytes_50 f') (nI k) t (nI n) (nI p) (if ob t V (p + n / 2) = 0 then 1 else 0) S' := by
        unfold f_X12_bytes_118
        rw [eh, nI_add, bit_eq hk hL h' hhL, mBind_of]
        by_cases o : ob t V (p + n / 2) = 0
        · rw [if_pos o, if_pos o]
        · rw [if_neg o, if_neg o]
          rfl
      have h24 : f_X10_beginsByte_24 (12 + 2 * k) t (nI p) (nI (n / 2)) S = some ((if ob t V (p + n / 2) = 0 then 1 else 0), S) := by
        unfold f_X10_beginsByte_24 f_X10_beginsByte_29
        rw [if_neg (by decide), nI_add, isOne_eq hk hL h hhL, mBind_of]
        by_cases o : ob t V (p + n / 2) = 0
        · rw [if_pos o, if_pos o]
        · rw [if_neg o, if_neg o]
      have h28 : f_X10_beginsByte_28 (12 + 2 * k) t (nI p) (nI (n / 2)) S = some (0, S) := by
        unfold f_X10_beginsByte_28 f_X10_beginsByte_29
        rw [if_pos rfl]
      have o01 : ((if ob t V (p + n / 2) = 0 then (1 : Int32) else 0) = 0 ∨ (if ob t V (p + n / 2) = 0 then (1 : Int32) else 0) = 1) := b01'
      unfold f_X10_beginsByte
      rw [isOne_eq hk hL h hpL, mBind_of]
      by_cases o : ob t V p = 0
      · by_cases p0 : p = 0
        · refine ⟨(if ob t V (p + n / 2) = 0 then 1 else 0), o01, ?_, (hb _).mpr ?_⟩
          · rw [if_pos o, if_pos (show nI p = 0 by rw [p0]; rfl)]
            exact h24
          · rw [if_pos o, if_pos (show nI p = 0 by rw [p0]; rfl)]
            exact h118
        · have ep : nI p - (1 : Int32) = nI (p - 1) := nI_sub (b := 1) (by omega)
          rcases ob_01 t V (p - 1) with o1 | o1
          · refine ⟨0, Or.inl rfl, ?_, (hb _).mpr ?_⟩
            · rw [if_pos o, if_neg (nI_ne0 (by omega) (by omega)), ep, isOne_eq hk hL h (by omega), mBind_of, o1, if_pos rfl]
              exact h28
            · rw [if_pos o, if_neg (nI_ne0 (by omega) (by omega)), ep, bit_eq hk hL h' (by omega), mBind_of, o1, if_neg (by decide)]
              rfl
          · refine ⟨(if ob t V (p + n / 2) = 0 then 1 else 0), o01, ?_, (hb _).mpr ?_⟩
            · rw [if_pos o, if_neg (nI_ne0 (by omega) (by omega)), ep, isOne_eq hk hL h (by omega), mBind_of, o1, if_neg (by decide)]
              exact h24
            · rw [if_pos o, if_neg (nI_ne0 (by omega) (by omega)), ep, bit_eq hk hL h' (by omega), mBind_of, o1, if_pos rfl]
              exact h118
      · refine ⟨0, Or.inl rfl, ?_, (hb _).mpr ?_⟩
        · rw [if_neg o]
          exact h28
        · rw [if_neg o]
          rfl
    rw [b2]
    unfold f_X10_readOne_21 f_X12_bytes_138
    rw [h.1, nI_add, if_neg (nI_ge hlL (by omega)), hr.1, if_neg g20, b1, mBind_of]
    rcases hB01 with rfl | rfl
    · rw [if_pos rfl, if_pos rfl]
      simp only [bnd, nI_1]
      exact ih (p + 1) f f' S S' w (by omega) (by omega) (by omega) (by omega) hw h h' hr c1 c2
    · rw [if_neg (by decide), if_neg (by decide)]
      obtain ⟨R, g, y1, y2⟩ := bytes_in (t := t) (k50 := f_X12_bytes_50 f') hk hL h h' hlL' 8 0 mFuel mFuel 0 (by omega) (by unfold mFuel; omega) (by unfold mFuel; omega)
      have y1 : f_X10_byteBehind (12 + 2 * k) t (nI (p + n / 2)) (nI n) S = some (R, S) := y1
      have y2 : f_X12_bytes_151 mFuel (f_X12_bytes_50 f') (nI k) t (nI n) (nI p) 0 1 S' = _ := y2
      rw [y2]
      unfold f_X12_bytes_151
      rw [if_pos (Int32.le_refl _), eh, e9, nI_add, nI_add, show p + n / 2 + 9 * n = p + (n / 2 + 9 * n) by omega]
      simp only [bnd]
      rw [isOne_eq hk hL h hlL, mBind_of, bit_eq hk hL h' hlL, mBind_of]
      rcases ob_01 t V (p + (n / 2 + 9 * n)) with o | o
      · rw [o, if_pos rfl, if_neg (by decide), nI_1]
        obtain ⟨f', rfl⟩ : ∃ g, f' = g + 1 := ⟨f' - 1, by omega⟩
        refine ⟨setI S 66 3 (nI (p + (n / 2 + 9 * n))), setI S' 69 51 (nI (p + (n / 2 + 9 * n))), w, hw, rfl, ?_, ⟨fun b q1 q2 q3 => setI_row _ _ _ _ q1, rfl⟩, ⟨fun b q1 q2 q3 => setI_row _ _ _ _ q1, fun j q1 q2 => setI_slot _ _ _ _ q2 _, rfl⟩, ⟨?_, ?_, fun i hi => ?_⟩, by rw [setI_same, setI_same]⟩
        · unfold f_X12_bytes_50
          rw [setI_slot _ _ _ _ (by omega), hr.2.1, if_neg g20, setI_same, if_neg (m1_ne (by omega))]
        · rw [setI_slot _ _ _ _ (by omega)]
          exact hr.1
        · rw [setI_slot _ _ _ _ (by omega)]
          exact hr.2.1
        · rw [setI_row _ _ _ _ (by omega), setI_row _ _ _ _ (by omega), setI_row _ _ _ _ (by omega), setI_row _ _ _ _ (by omega)]
          exact hr.2.2 i hi
      · rw [o, if_neg (by decide), if_pos rfl, y1, mBind_of]
        obtain ⟨S1, S2, z1, z2, z3, z4, z5, z6, z7⟩ := add_gets (v := R) (p := nI p) (show w < 20 by omega) hr
        rw [z1, mBind_of, z2, mBind_of, nI_1, nI_1, nI_add, show p + (n / 2 + 9 * n + 1) = p + (n / 2 + 9 * n) + 1 by omega]
        obtain ⟨T1, T2, w2, u0, u1, u2, u3, u4, u5, u6⟩ := ih (p + (n / 2 + 9 * n) + 1) f f' S1 S2 (w + 1) (by omega) (by omega) (by omega) (by omega) (by omega) (z3.en hk h) (z4.en h') z7 (by rw [z5 3 (by omega)]; exact c1) (by rw [z6]; exact c2)
        exact ⟨T1, T2, w2, u0, u1, u2, z3.tr u3, z4.tr u4, u5, u6⟩
/-- what the wires' calls leave -/
theorem Inv.wire {c : Nat} {S S' : mM} (h : Inv c S) (hr : ∀ b, b ≠ 66 → b ≠ 67 → b ≠ 68 → b ≠ 69 → b ≠ 96 → b ≠ 97 → S'.1 b = S.1 b) (h69 : ∀ j, j ≠ 48 → j ≠ 51 → S'.1 69 j = S.1 69 j) (h2 : S'.2 = S.2) (hw : iWr S') : Inv (c + 1) S' := by
  refine ⟨h.1.frame (fun a ha => ?_) (h69 1 (by omega) (by omega)), ?_, (h.2.2.1.mono (by omega)).frame (fun a ha => ?_) (fun j hj => ?_) (by rw [h2]), h.2.2.2.1.frame (fun a ha => ?_) (h69 34 (by omega) (by omega)) ?_, h.2.2.2.2.1.frame (fun a ha => ?_), h.2.2.2.2.2.1.frame (fun a ha => ?_) (fun a _ => by rw [h2]), ?_, hw⟩
  · unfold rwTp at ha
    exact hr a (by omega) (by omega) (by omega) (by omega) (by omega) (by omega)
  · rw [hr 6 (by omega) (by omega) (by omega) (by omega) (by omega) (by omega), h69 18 (by omega) (by omega)]
    exact h.2.1
  · unfold rwEn at ha
    exact hr a (by omega) (by omega) (by omega) (by omega) (by omega) (by omega)
  · unfold slEn at hj
    exact h69 j (by omega) (by omega)
  · unfold rwSg at ha
    exact hr a (by omega) (by omega) (by omega) (by omega) (by omega) (by omega)
  · rw [hr 7 (by omega) (by omega) (by omega) (by omega) (by omega) (by omega)]
  · unfold rwSh at ha
    exact hr a (by omega) (by omega) (by omega) (by omega) (by omega) (by omega)
  · unfold rwRw at ha
    exact hr a (by omega) (by omega) (by omega) (by omega) (by omega) (by omega)
  · rw [hr 0 (by omega) (by omega) (by omega) (by omega) (by omega) (by omega), h69 42 (by omega) (by omega)]
    exact h.2.2.2.2.2.2.1
theorem l16 (p : Int32) : p.toInt64 ≤ (16 : Int64) ↔ p ≤ 16 := by rw [show (16 : Int64) = (16 : Int32).toInt64 by decide, l_le]
theorem l2' (p : Int32) : (2 : Int64) ≤ p.toInt64 ↔ 2 ≤ p := by rw [show (2 : Int64) = (2 : Int32).toInt64 by decide, l_le]
theorem ag_bytes (c : Nat) (q t n : Int32) : Ag c (f_X11_bytes q t n) (f_X12_bytes q t n) := fun _ S h => by
  obtain ⟨ns, hns, s1, s2, s3, s4⟩ := h.2.2.2.1
  unfold f_X11_bytes f_X12_bytes
  rw [hasTrace_eq hns s1, mBind_of]
  simp only [isIn_eq, in_eq, mBind_of, b01, l0, l3, l16, l2']
  by_cases hq : ∃ k, k < ns ∧ q = nI k
  · by_cases ht : 0 ≤ t ∧ t ≤ 3
    · by_cases hn : 2 ≤ n ∧ n ≤ 16
      · have hq' := hq
        obtain ⟨k, hk, rfl⟩ := hq
        obtain ⟨n, hn16, rfl⟩ := (upto (p := n) (n := 16) (by omega)).mp ⟨Int32.le_trans (by decide) hn.1, hn.2⟩
        obtain ⟨-, a2, -, L, n1, n2, n3, n4⟩ := s4 k hk
        rw [if_nn ⟨hq', ht⟩, if_nn hn, store_get hns s1 hk, mBind_of, if_pos (kseg (by omega))]
        have eh : nI n / (2 : Int32) = nI (n / 2) := nI_div (b := 2) (by omega) (by omega)
        have e9 : (9 : Int32) * nI n = nI (9 * n) := by rw [show (9 : Int32) = nI 9 from rfl, nI_mul]
        generalize hT : setI (setI (setI (setI S 66 2 (0 : Int32)) 66 3 (-4 : Int32)) 66 4 (0 : Int32)) 66 5 (0 : Int32) = T
        have hTr : ∀ b, b ≠ 66 → T.1 b = S.1 b := fun b hb => by rw [← hT, setI_row _ _ _ _ hb, setI_row _ _ _ _ hb, setI_row _ _ _ _ hb, setI_row _ _ _ _ hb]
        have hT2 : T.2 = S.2 := by rw [← hT]; rfl
        have t2 : T.1 66 2 = nI 0 := by rw [← hT, setI_slot _ _ _ _ (by omega), setI_slot _ _ _ _ (by omega), setI_slot _ _ _ _ (by omega), setI_same]; rfl
        have t3 : T.1 66 3 = -4 := by rw [← hT, setI_slot _ _ _ _ (by omega), setI_slot _ _ _ _ (by omega), setI_same]
        have hE : cE T k L (S.1 (13 + 2 * k)) := ⟨by rw [hTr _ (by omega), a2]; exact n3, fun i _ => by rw [hTr _ (by omega)]⟩
        -- the class alone, with any reference
        have key : ∀ S', rE S' k L (S.1 (13 + 2 * k)) → S'.1 69 48 = nI 0 → S'.1 69 51 = -4 → ∃ S1 S2 w2, w2 ≤ 20 ∧ f_X10_readOne_21 mFuel (12 + 2 * k) t (nI n) (nI (n / 2)) (nI (n / 2 + 9 * n)) (nI 0) T = some ((), S1) ∧ f_X12_bytes_50 mFuel (nI k) t (nI n) (nI 0) S' = some (nI w2, S2) ∧ cF T S1 ∧ rF S' S2 ∧ wR S1 S2 w2 ∧ S1.1 66 3 = S2.1 69 51 := fun S' h1 h2 h3 =>
          bytes_loop (by omega) n2 hn16 201 0 mFuel mFuel T S' 0 (by omega) (by omega) (by unfold mFuel; omega) (by unfold mFuel; omega) (by omega) hE h1 ⟨t2, h2, fun i hi => absurd hi (by omega)⟩ t3 h3
        have rr : ∀ S1, cF T S1 → rE (setI (setI S1 69 48 (0 : Int32)) 69 51 (-4 : Int32)) k L (S.1 (13 + 2 * k)) := fun S1 z => by
          refine ⟨?_, fun i hi => ?_⟩
          · rw [setI_row _ _ _ _ (by omega), setI_row _ _ _ _ (by omega), z.1 _ (by omega) (by omega) (by omega), hTr _ (by omega)]
            exact n3
          · rw [setI_row _ _ _ _ (by omega), setI_row _ _ _ _ (by omega), z.1 _ (by omega) (by omega) (by omega), hTr _ (by omega)]
            exact (n4 i hi).symm
        obtain ⟨S1, -, -, -, x1, -, x2, -⟩ := key (setI (setI T 69 48 (0 : Int32)) 69 51 (-4 : Int32)) (rr T cF.rfl) (by rw [setI_slot _ _ _ _ (by omega), setI_same]; rfl) (setI_same _ _ _ _)
        obtain ⟨S1', S2, w2, y0, y1, y2, y3, y4, y5, y6⟩ := key (setI (setI S1 69 48 (0 : Int32)) 69 51 (-4 : Int32)) (rr S1 x2) (by rw [setI_slot _ _ _ _ (by omega), setI_same]; rfl) (setI_same _ _ _ _)
        have eS : S1' = S1 := by
          rw [x1] at y1
          exact (congrArg Prod.snd (Option.some.inj y1)).symm
        subst eS
        have fr : ∀ b, b ≠ 69 → b ≠ 96 → b ≠ 97 → S2.1 b = S1'.1 b := fun b q1 q2 q3 => by rw [y4.1 b q1 q2 q3, setI_row _ _ _ _ q1, setI_row _ _ _ _ q1]
        refine ⟨nI w2, S1', S2, ?_, ?_, h.wire (fun b q1 q2 q3 q4 q5 q6 => ?_) (fun j q1 q2 => ?_) ?_ ⟨?_, w2, y0, ?_, y5.2.1, fun i hi => ?_⟩⟩
        · unfold f_X10_readOne f_X10_clear
          simp only [bnd, mBind_of]
          rw [hT, eh, e9, nI_add]
          have y1 : f_X10_readOne_21 mFuel (12 + 2 * k) t (nI n) (nI (n / 2)) (nI (n / 2 + 9 * n)) 0 T = some ((), S1') := y1
          rw [y1, mBind_of, y5.1]
        · rw [isSeg hns (show S1'.1 69 34 = nI ns by rw [y3.1 _ (by omega) (by omega) (by omega), hTr _ (by omega)]; exact s2), mBind_of, if_neg (fun z => b01.mp z hq'), if_nn ht, if_nn hn]
          exact y2
        · rw [fr b q4 q5 q6, y3.1 b q1 q2 q3, hTr b q1]
        · rw [y4.2.1 j q1 q2, setI_slot _ _ _ _ q2, setI_slot _ _ _ _ q1, y3.1 _ (by omega) (by omega) (by omega), hTr _ (by omega)]
        · rw [y4.2.2, setI_2, setI_2, y3.2, hT2]
        · rw [fr 66 (by omega) (by omega) (by omega)]
          exact y6
        · rw [fr 66 (by omega) (by omega) (by omega)]
          exact y5.1
        · rw [fr 67 (by omega) (by omega) (by omega), fr 68 (by omega) (by omega) (by omega)]
          exact y5.2.2 i hi
      · refine ⟨-1, S, S, ?_, ?_, h.mono (by omega)⟩
        · rw [if_nn ⟨hq, ht⟩, if_pos hn]
        · rw [isSeg hns s2, mBind_of, if_neg (fun z => b01.mp z hq), if_nn ht, if_pos hn]
    · refine ⟨-1, S, S, ?_, ?_, h.mono (by omega)⟩
      · rw [if_pos (fun z => ht z.2)]
      · rw [isSeg hns s2, mBind_of, if_neg (fun z => b01.mp z hq), if_pos ht]
  · refine ⟨-1, S, S, ?_, ?_, h.mono (by omega)⟩
    · rw [if_pos (fun z => hq z.1)]
    · rw [isSeg hns s2, mBind_of, if_pos (b01.mpr hq)]
