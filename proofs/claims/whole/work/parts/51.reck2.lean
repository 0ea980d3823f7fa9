/-! PURE: reckon: what one place becomes -/
def hg (g : Nat → Int32) : Nat → Nat → Int32
  | _, 0 => 0
  | i, m + 1 => if g i = 0 then hg g (i + 1) m else 1
theorem hg_01 (g : Nat → Int32) : ∀ m i, hg g i m = 0 ∨ hg g i m = 1
  | 0, _ => Or.inl rfl
  | m + 1, i => by
    show (if g i = 0 then hg g (i + 1) m else 1) = 0 ∨ (if g i = 0 then hg g (i + 1) m else 1) = 1
    by_cases h : g i = 0
    · rw [if_pos h]
      exact hg_01 g m (i + 1)
    · rw [if_neg h]
      exact Or.inr rfl
theorem hg_congr {g k : Nat → Int32} : ∀ m i, (∀ j, i ≤ j → j < i + m → g j = k j) → hg g i m = hg k i m
  | 0, _, _ => rfl
  | m + 1, i, h => by
    show (if g i = 0 then hg g (i + 1) m else 1) = (if k i = 0 then hg k (i + 1) m else 1)
    rw [h i (by omega) (by omega), hg_congr m (i + 1) (fun j h1 h2 => h j (by omega) (by omega))]
theorem hg_loop {S : mM} {t n b : Nat} (hn : n ≤ 201) (h : S.1 t 2 = nI n) (hb : b < n) : ∀ (m i f : Nat), i + m = b + 1 → m < f → f_X3_hasGap_6 f t (nI b) (nI i) S = some (hg (S.1 (t + 2)) i m, S)
  | 0, i, f + 1, hm, _ => by
    unfold f_X3_hasGap_6
    rw [if_pos (nI_lt (by omega) (by omega))]
    rfl
  | m + 1, i, f + 1, hm, hf => by
    unfold f_X3_hasGap_6
    rw [if_neg (nI_nlt (by omega) (by omega)), h, if_neg (nI_ge (by omega) (by omega)), if_pos (ix (show i < 201 by omega) (by omega)), nI_clamp (by omega)]
    simp only [bnd, nI_1]
    rw [hg_loop hn h hb m (i + 1) f (by omega) (by omega)]
    show _ = some ((if S.1 (t + 2) i = 0 then hg (S.1 (t + 2)) (i + 1) m else 1), S)
    by_cases e : S.1 (t + 2) i = 0
    · rw [if_pos e, if_pos e]
    · rw [if_neg e, if_neg e]
theorem i32_sa (a b : Int32) : a - b + 1 = a + 1 - b := by rw [Int32.sub_eq_add_neg, Int32.sub_eq_add_neg, Int32.add_assoc, Int32.add_comm (-b) 1, ← Int32.add_assoc]
theorem win_pos {i k : Nat} (h : k ≤ i + 1) : nI i - nI k + (1 : Int32) = nI (i + 1 - k) := by rw [i32_sa, nI_1, nI_sub h]
theorem sub_neg {i k : Nat} (hi : i < 2 ^ 30) (hk : k < 2 ^ 30) (h : i < k) : nI i - nI k < 0 := by
  rw [Int32.lt_iff_toInt_lt, Int32.toInt_sub, nI_toInt (by omega), nI_toInt (by omega), Int.bmod_eq_of_le (by omega) (by omega), show (0 : Int32).toInt = 0 by decide]
  omega
theorem win_neg {i k : Nat} (hi : i < 2 ^ 29) (hk : k < 2 ^ 30) (h : ¬ k ≤ i + 1) : nI i - nI k + (1 : Int32) < 0 := by
  rw [i32_sa, nI_1]
  exact sub_neg (by omega) hk (by omega)
theorem max0 {a : Nat} (h : a < 2 ^ 31) (S : mM) : f_J9_max_7cf53 (nI a) (0 : Int32) S = some (nI a, S) := by
  unfold f_J9_max_7cf53
  rw [if_neg (nI_pos h)]
/-- sums -/
def G3 (k : Nat) (g : Nat → Int32) (i : Nat) : Int32 := if k ≤ i + 1 then hg g (i + 1 - k) k else 1
def W3 (k : Nat) (g : Nat → Int32) (v : Nat → Int64) (i : Nat) : Int64 := if G3 k g i = 0 then sm v 0 (i + 1 - k) k else 0
theorem G3_01 (k : Nat) (g : Nat → Int32) (i : Nat) : G3 k g i = 0 ∨ G3 k g i = 1 := by
  unfold G3
  by_cases h : k ≤ i + 1
  · rw [if_pos h]
    exact hg_01 g k _
  · rw [if_neg h]
    exact Or.inr rfl
theorem st3 {x n k : Nat} {g : Nat → Int32} {v : Nat → Int64} (hn : n ≤ 201) (hk1 : 1 ≤ k) (hk : k ≤ 64) : ∀ i, i < n → ∀ T : mM, T.1 (54 + 3 * x) 2 = nI n → (∀ j, j ≤ i → T.1 (56 + 3 * x) j = g j ∧ T.2.1 (55 + 3 * x) j = v j) →
      f_X3_leavesGap (54 + 3 * x) 3 (nI i) (nI k) T = some (G3 k g i, T) ∧ (G3 k g i = 0 → f_X3_reckoned (54 + 3 * x) 3 (nI i) (nI k) T = some (W3 k g v i, T)) ∧ (G3 k g i = 0 ∨ (G3 k g i = 1 ∧ W3 k g v i = 0)) := by
  intro i hi T hl hd
  have e2 : 54 + 3 * x + 2 = 56 + 3 * x := by omega
  have e1 : 54 + 3 * x + 1 = 55 + 3 * x := by omega
  refine ⟨?_, fun h0 => ?_, ?_⟩
  · unfold f_X3_leavesGap
    rw [if_pos rfl]
    by_cases h : k ≤ i + 1
    · rw [win_pos h, if_neg (nI_pos (by omega))]
      unfold f_X3_hasGap
      rw [max0 (by omega), mBind_of, hg_loop hn hl hi k (i + 1 - k) mFuel (by omega) (by unfold mFuel; omega), mBind_of, e2, hg_congr k (i + 1 - k) (fun j h1 h2 => (hd j (by omega)).1)]
      rw [show G3 k g i = hg g (i + 1 - k) k from if_pos h]
      rcases hg_01 g k (i + 1 - k) with e | e
      · rw [e, if_pos rfl]
      · rw [e, if_neg (by decide)]
    · rw [if_pos (win_neg (by omega) (by omega) h), show G3 k g i = 1 from if_neg h]
  · unfold f_X3_reckoned
    have h : k ≤ i + 1 := by
      by_cases h : k ≤ i + 1
      · exact h
      · rw [show G3 k g i = 1 from if_neg h] at h0
        exact absurd h0 (by decide)
    rw [if_pos rfl, win_pos h]
    unfold f_X3_sum
    rw [max0 (by omega), mBind_of, sum_loop hn hl hi k (i + 1 - k) mFuel 0 (by omega) (by unfold mFuel; omega), mBind_of, e1, sm_congr k 0 (i + 1 - k) (fun j h1 h2 => (hd j (by omega)).2), show W3 k g v i = sm v 0 (i + 1 - k) k from if_pos h0]
  · rcases G3_01 k g i with e | e
    · exact Or.inl e
    · exact Or.inr ⟨e, if_neg (by rw [e]; decide)⟩
theorem s59_1 (f : Nat) (x y u : Int32) (acc : Int64) (T : mM) : f_X12_single_59 (f + 1) x y 1 acc u T = f_X12_single_254 y 1 acc T := by
  unfold f_X12_single_59 f_X12_single_110
  by_cases h : y < u
  · rw [if_pos h]
  · rw [if_neg h, if_neg (by decide)]
theorem s59 {T : mM} {x i : Nat} (hx : x < 4) (hi : i < 201) (hg1 : ∀ j, j ≤ i → T.1 93 (201 * x + j) = 0 ∨ T.1 93 (201 * x + j) = 1) : ∀ (m j f : Nat) (acc : Int64), j + m = i + 1 → m < f →
    ∃ u, f_X12_single_59 f (nI x) (nI i) 0 acc (nI j) T = f_X12_single_254 (nI i) (hg (fun j => T.1 93 (201 * x + j)) j m) u T ∧ (hg (fun j => T.1 93 (201 * x + j)) j m = 0 → u = sm (fun j => T.2.1 92 (201 * x + j)) acc j m)
  | 0, j, f + 1, acc, hm, _ => ⟨acc, by
      unfold f_X12_single_59 f_X12_single_110
      rw [if_pos (nI_lt (by omega) (by omega))]
      rfl, fun _ => rfl⟩
  | m + 1, j, f + 1, acc, hm, hf => by
    have step : f_X12_single_59 (f + 1) (nI x) (nI i) 0 acc (nI j) T = f_X12_single_59 f (nI x) (nI i) (T.1 93 (201 * x + j)) (acc + T.2.1 92 (201 * x + j)) (nI (j + 1)) T := by
      conv => lhs; unfold f_X12_single_59
      rw [if_neg (nI_nlt (by omega) (by omega)), if_pos rfl, rowAt, if_pos (ix (show 201 * x + j < 804 by omega) (by omega)), nI_clamp (by omega)]
      simp only [bnd, if_pos (ixc (show 201 * x + j < 804 by omega) (by omega)), nI_1]
    have eh : hg (fun j => T.1 93 (201 * x + j)) j (m + 1) = if T.1 93 (201 * x + j) = 0 then hg (fun j => T.1 93 (201 * x + j)) (j + 1) m else 1 := rfl
    rw [step]
    rcases hg1 j (by omega) with e | e
    · obtain ⟨u, k1, k2⟩ := s59 (T := T) hx hi hg1 m (j + 1) f (acc + T.2.1 92 (201 * x + j)) (by omega) (by omega)
      rw [eh, if_pos e, e]
      exact ⟨u, k1, k2⟩
    · obtain ⟨f, rfl⟩ : ∃ g, f = g + 1 := ⟨f - 1, by omega⟩
      rw [eh, if_neg (by rw [e]; decide), e]
      exact ⟨_, s59_1 _ _ _ _ _ _, fun z => absurd z (by decide)⟩
/-- the reference's places -/
theorem sg_head {T : mM} {x i : Nat} {w K : Int32} {R : Option (Unit × mM)} (hx : x < 4) (hi : i < 201)
    (h : (if w = (3 : Int32) then
    if K ≤ (nI i + (1 : Int32)) then
      f_X12_single_46 (nI x) K (nI i) (0 : Int32) T
    else
      f_X12_single_46 (nI x) K (nI i) (1 : Int32) T
  else
    if w = (4 : Int32) then
      if T.1 93 (201 * x + i) = 0 then
        if nI i < K then
          f_X12_single_141 K (nI i) (nI (201 * x + i)) (T.2.1 92 (201 * x + i)) T
        else
          if 0 ≤ (nI (201 * x + i) - K) ∧ (nI (201 * x + i) - K).toNatClampNeg < 804 then
          (if (T.1 93 (nI (201 * x + i) - K).toNatClampNeg) = 0 then
            f_X12_single_146 K (nI i) (nI (201 * x + i)) (T.2.1 92 (201 * x + i)) (0 : Int32) T
          else
            f_X12_single_141 K (nI i) (nI (201 * x + i)) (T.2.1 92 (201 * x + i)) T)
          else none
      else
        f_X12_single_141 K (nI i) (nI (201 * x + i)) (T.2.1 92 (201 * x + i)) T
    else
      if w = (5 : Int32) then
        if T.1 93 (201 * x + i) = 0 then
          if 0 ≤ (lg_cmp (T.2.1 92 (201 * x + i)) K.toInt64) then
            f_X12_single_197 (nI i) (T.2.1 92 (201 * x + i)) (0 : Int32) T
          else
            f_X12_single_192 (nI i) (T.2.1 92 (201 * x + i)) T
        else
          f_X12_single_192 (nI i) (T.2.1 92 (201 * x + i)) T
      else
        if w = (6 : Int32) then
          if T.1 93 (201 * x + i) = 0 then
            f_X12_single_254 (nI i) (T.1 93 (201 * x + i)) (T.2.1 92 (201 * x + i)) T
          else
            if nI i ≤ 0 then
              f_X12_single_254 (nI i) (T.1 93 (201 * x + i)) (T.2.1 92 (201 * x + i)) T
            else
              if 0 ≤ (nI i - (1 : Int32)) ∧ (nI i - (1 : Int32)).toNatClampNeg < 201 then
              (if (T.1 95 (nI i - (1 : Int32)).toNatClampNeg) = 0 then
                if 0 ≤ (nI i - (1 : Int32)) ∧ (nI i - (1 : Int32)).toNatClampNeg < 201 then
                (f_X12_single_254 (nI i) (0 : Int32) (T.2.1 94 (nI i - (1 : Int32)).toNatClampNeg) T)
                else none
              else
                f_X12_single_254 (nI i) (T.1 93 (201 * x + i)) (T.2.1 92 (201 * x + i)) T)
              else none
        else
          f_X12_single_254 (nI i) (T.1 93 (201 * x + i)) (K.toInt64 * (T.2.1 92 (201 * x + i))) T) = R) : f_X12_single w (nI x) K (nI i) T = R := by
  unfold f_X12_single
  rw [rowAt]
  simp only [bnd]
  rw [if_pos (ix (show 201 * x + i < 804 by omega) (by omega)), if_pos (ix (show 201 * x + i < 804 by omega) (by omega)), nI_clamp (by omega)]
  exact h
theorem rs3 {x n k : Nat} {A : Nat → Int32} {B : Nat → Int64} (hx : x < 4) (hn : n ≤ 201) (hk1 : 1 ≤ k) (hk : k ≤ 64) (hA : ∀ j, j < n → A (201 * x + j) = 0 ∨ A (201 * x + j) = 1) :
    ∀ i, i < n → ∀ T : mM, T.1 93 = A → T.2.1 92 = B → f_X12_single 3 (nI x) (nI k) (nI i) T = some ((), wr T 94 95 i (G3 k (fun j => A (201 * x + j)) i) (W3 k (fun j => A (201 * x + j)) (fun j => B (201 * x + j)) i)) := by
  intro i hi T h1 h2
  refine sg_head hx (by omega) ?_
  rw [if_pos rfl]
  unfold f_X12_single_46
  simp only [bnd]
  by_cases h : k ≤ i + 1
  · rw [nI_1, if_pos (nI_le h (by omega)), win_pos h]
    obtain ⟨u, k1, k2⟩ := s59 (T := T) (x := x) (i := i) hx (by omega) (fun j hj => by rw [h1]; exact hA j (by omega)) k (i + 1 - k) mFuel 0 (by omega) (by unfold mFuel; omega)
    rw [h1] at k1 k2
    rw [h2] at k2
    rw [k1, s254 (by omega) (hg_01 _ _ _)]
    have eG : G3 k (fun j => A (201 * x + j)) i = hg (fun j => A (201 * x + j)) (i + 1 - k) k := if_pos h
    unfold W3
    rw [eG]
    rcases hg_01 (fun j => A (201 * x + j)) k (i + 1 - k) with e | e
    · rw [if_pos e, if_pos e, k2 e]
    · rw [if_neg (by rw [e]; decide), if_neg (by rw [e]; decide)]
  · rw [if_neg (by rw [nI_1]; exact nI_ge (by omega) (by omega)), show mFuel = 99999 + 1 from rfl, s59_1, s254 (by omega) (Or.inr rfl)]
    have eG : G3 k (fun j => A (201 * x + j)) i = 1 := if_neg h
    unfold W3
    rw [eG]
    simp only [z10, if_false]
/-- steps -/
def G4 (k : Nat) (g : Nat → Int32) (i : Nat) : Int32 := if k ≤ i ∧ g i = 0 ∧ g (i - k) = 0 then 0 else 1
def W4 (k : Nat) (g : Nat → Int32) (v : Nat → Int64) (i : Nat) : Int64 := if G4 k g i = 0 then v i - v (i - k) else 0
theorem st4 {x n k : Nat} {g : Nat → Int32} {v : Nat → Int64} (hn : n ≤ 201) (hk : k ≤ 64) : ∀ i, i < n → ∀ T : mM, T.1 (54 + 3 * x) 2 = nI n → (∀ j, j ≤ i → T.1 (56 + 3 * x) j = g j ∧ T.2.1 (55 + 3 * x) j = v j) →
      f_X3_leavesGap (54 + 3 * x) 4 (nI i) (nI k) T = some (G4 k g i, T) ∧ (G4 k g i = 0 → f_X3_reckoned (54 + 3 * x) 4 (nI i) (nI k) T = some (W4 k g v i, T)) ∧ (G4 k g i = 0 ∨ (G4 k g i = 1 ∧ W4 k g v i = 0)) := by
  intro i hi T hl hd
  have e2 : 54 + 3 * x + 2 = 56 + 3 * x := by omega
  have e1 : 54 + 3 * x + 1 = 55 + 3 * x := by omega
  refine ⟨?_, fun h0 => ?_, ?_⟩
  · unfold f_X3_leavesGap
    rw [if_neg (by decide), if_pos rfl]
    by_cases h : k ≤ i
    · rw [nI_sub h, if_neg (nI_pos (by omega)), if_pos (ix (show i < 201 by omega) (by omega)), if_pos (ix (show i - k < 201 by omega) (by omega)), nI_clamp (by omega), nI_clamp (by omega), e2, (hd i (by omega)).1, (hd (i - k) (by omega)).1]
      by_cases a : g i = 0
      · by_cases b : g (i - k) = 0
        · rw [if_pos a, if_pos b, show G4 k g i = 0 from if_pos ⟨h, a, b⟩]
        · rw [if_pos a, if_neg b, show G4 k g i = 1 from if_neg (fun z => b z.2.2)]
      · rw [if_neg a, show G4 k g i = 1 from if_neg (fun z => a z.2.1)]
    · rw [if_pos (sub_neg (by omega) (by omega) (by omega)), show G4 k g i = 1 from if_neg (fun z => h z.1)]
  · have h : k ≤ i := by
      by_cases h : k ≤ i
      · exact h
      · rw [show G4 k g i = 1 from if_neg (fun z => h z.1)] at h0
        exact absurd h0 (by decide)
    unfold f_X3_reckoned f_X3_valueAt
    rw [if_neg (by decide), if_pos rfl, nI_sub h, if_pos (ix (show i < 201 by omega) (by omega)), isIn_eq, mBind_of, hl, if_pos ((below (by omega)).mpr ⟨i - k, by omega, rfl⟩), if_neg (by decide), if_pos (ix (show i - k < 201 by omega) (by omega)), nI_clamp (by omega), nI_clamp (by omega), mBind_of, e1, (hd i (by omega)).2, (hd (i - k) (by omega)).2, show W4 k g v i = v i - v (i - k) from if_pos h0]
  · by_cases e : k ≤ i ∧ g i = 0 ∧ g (i - k) = 0
    · exact Or.inl (if_pos e)
    · have e' : G4 k g i = 1 := if_neg e
      exact Or.inr ⟨e', if_neg (by rw [e']; decide)⟩
theorem rs4 {x n k : Nat} {A : Nat → Int32} {B : Nat → Int64} (hx : x < 4) (hn : n ≤ 201) (hk : k ≤ 64) :
    ∀ i, i < n → ∀ T : mM, T.1 93 = A → T.2.1 92 = B → f_X12_single 4 (nI x) (nI k) (nI i) T = some ((), wr T 94 95 i (G4 k (fun j => A (201 * x + j)) i) (W4 k (fun j => A (201 * x + j)) (fun j => B (201 * x + j)) i)) := by
  intro i hi T h1 h2
  refine sg_head hx (by omega) ?_
  rw [if_neg (by decide), if_pos rfl, h1, h2]
  have h141 : f_X12_single_141 (nI k) (nI i) (nI (201 * x + i)) (B (201 * x + i)) T = some ((), wr T 94 95 i 1 0) := by
    unfold f_X12_single_141 f_X12_single_146 f_X12_single_169
    rw [if_neg (by decide), s254 (by omega) (Or.inr rfl), if_neg (by decide)]
  rw [h141]
  unfold W4
  by_cases h : k ≤ i
  · rw [if_neg (show ¬ nI i < nI k from nI_nlt h (by omega)), nI_sub (show k ≤ 201 * x + i by omega), if_pos (ix (show 201 * x + i - k < 804 by omega) (by omega)), nI_clamp (by omega), show 201 * x + i - k = 201 * x + (i - k) by omega]
    by_cases a : A (201 * x + i) = 0
    · by_cases b : A (201 * x + (i - k)) = 0
      · rw [if_pos a, if_pos b, show G4 k (fun j => A (201 * x + j)) i = 0 from if_pos ⟨h, a, b⟩, if_pos rfl]
        unfold f_X12_single_146 f_X12_single_169
        rw [if_pos rfl, nI_sub (show k ≤ 201 * x + i by omega), if_pos (ix (show 201 * x + i - k < 804 by omega) (by omega)), nI_clamp (by omega), show 201 * x + i - k = 201 * x + (i - k) by omega, s254 (by omega) (Or.inl rfl), if_pos rfl, h2]
      · rw [if_pos a, if_neg b, show G4 k (fun j => A (201 * x + j)) i = 1 from if_neg (fun z => b z.2.2), if_neg (by decide)]
    · rw [if_neg a, show G4 k (fun j => A (201 * x + j)) i = 1 from if_neg (fun z => a z.2.1), if_neg (by decide)]
  · rw [if_pos (show nI i < nI k from nI_lt (by omega) (by omega)), ite_self, show G4 k (fun j => A (201 * x + j)) i = 1 from if_neg (fun z => h z.1), if_neg (by decide)]
/-- cut -/
def G5 (K : Int32) (g : Nat → Int32) (v : Nat → Int64) (i : Nat) : Int32 := if g i = 0 ∧ 0 ≤ lg_cmp (v i) K.toInt64 then 0 else 1
def W5 (K : Int32) (g : Nat → Int32) (v : Nat → Int64) (i : Nat) : Int64 := if G5 K g v i = 0 then v i else 0
theorem st5 {x n : Nat} {K : Int32} {g : Nat → Int32} {v : Nat → Int64} (hn : n ≤ 201) : ∀ i, i < n → ∀ T : mM, T.1 (54 + 3 * x) 2 = nI n → (∀ j, j ≤ i → T.1 (56 + 3 * x) j = g j ∧ T.2.1 (55 + 3 * x) j = v j) →
      f_X3_leavesGap (54 + 3 * x) 5 (nI i) K T = some (G5 K g v i, T) ∧ (G5 K g v i = 0 → f_X3_reckoned (54 + 3 * x) 5 (nI i) K T = some (W5 K g v i, T)) ∧ (G5 K g v i = 0 ∨ (G5 K g v i = 1 ∧ W5 K g v i = 0)) := by
  intro i hi T hl hd
  have e2 : 54 + 3 * x + 2 = 56 + 3 * x := by omega
  have e1 : 54 + 3 * x + 1 = 55 + 3 * x := by omega
  refine ⟨?_, fun h0 => ?_, ?_⟩
  · unfold f_X3_leavesGap
    rw [if_neg (by decide), if_neg (by decide), if_pos rfl, if_pos (ix (show i < 201 by omega) (by omega)), if_pos (ix (show i < 201 by omega) (by omega)), nI_clamp (by omega), e2, e1, (hd i (by omega)).1, (hd i (by omega)).2]
    by_cases a : g i = 0
    · by_cases b : 0 ≤ lg_cmp (v i) K.toInt64
      · rw [if_pos a, if_pos b, show G5 K g v i = 0 from if_pos ⟨a, b⟩]
      · rw [if_pos a, if_neg b, show G5 K g v i = 1 from if_neg (fun z => b z.2)]
    · rw [if_neg a, show G5 K g v i = 1 from if_neg (fun z => a z.1)]
  · unfold f_X3_reckoned
    rw [if_neg (by decide), if_neg (by decide), if_pos rfl, if_pos (ix (show i < 201 by omega) (by omega)), nI_clamp (by omega), e1, (hd i (by omega)).2, show W5 K g v i = v i from if_pos h0]
  · by_cases e : g i = 0 ∧ 0 ≤ lg_cmp (v i) K.toInt64
    · exact Or.inl (if_pos e)
    · have e' : G5 K g v i = 1 := if_neg e
      exact Or.inr ⟨e', if_neg (by rw [e']; decide)⟩
theorem rs5 {x n : Nat} {K : Int32} {A : Nat → Int32} {B : Nat → Int64} (hx : x < 4) (hn : n ≤ 201) :
    ∀ i, i < n → ∀ T : mM, T.1 93 = A → T.2.1 92 = B → f_X12_single 5 (nI x) K (nI i) T = some ((), wr T 94 95 i (G5 K (fun j => A (201 * x + j)) (fun j => B (201 * x + j)) i) (W5 K (fun j => A (201 * x + j)) (fun j => B (201 * x + j)) i)) := by
  intro i hi T h1 h2
  refine sg_head hx (by omega) ?_
  rw [if_neg (by decide), if_neg (by decide), if_pos rfl, h1, h2]
  unfold f_X12_single_192 f_X12_single_197
  rw [s254 (by omega) (Or.inl rfl), s254 (by omega) (Or.inr rfl), if_pos rfl, if_neg (show ¬ (1 : Int32) = 0 by decide)]
  unfold W5
  by_cases a : A (201 * x + i) = 0
  · by_cases b : 0 ≤ lg_cmp (B (201 * x + i)) K.toInt64
    · rw [if_pos a, if_pos b, show G5 K (fun j => A (201 * x + j)) (fun j => B (201 * x + j)) i = 0 from if_pos ⟨a, b⟩, if_pos rfl]
    · rw [if_pos a, if_neg b, show G5 K (fun j => A (201 * x + j)) (fun j => B (201 * x + j)) i = 1 from if_neg (fun z => b z.2), if_neg (by decide)]
  · rw [if_neg a, show G5 K (fun j => A (201 * x + j)) (fun j => B (201 * x + j)) i = 1 from if_neg (fun z => a z.1), if_neg (by decide)]
/-- times -/
def W7 (K : Int32) (g : Nat → Int32) (v : Nat → Int64) (i : Nat) : Int64 := if g i = 0 then K.toInt64 * v i else 0
theorem st7 {x n : Nat} {K : Int32} {g : Nat → Int32} {v : Nat → Int64} (hn : n ≤ 201) (hg : ∀ i, i < n → g i = 0 ∨ g i = 1) : ∀ i, i < n → ∀ T : mM, T.1 (54 + 3 * x) 2 = nI n → (∀ j, j ≤ i → T.1 (56 + 3 * x) j = g j ∧ T.2.1 (55 + 3 * x) j = v j) →
      f_X3_leavesGap (54 + 3 * x) 7 (nI i) K T = some (g i, T) ∧ (g i = 0 → f_X3_reckoned (54 + 3 * x) 7 (nI i) K T = some (W7 K g v i, T)) ∧ (g i = 0 ∨ (g i = 1 ∧ W7 K g v i = 0)) := by
  intro i hi T hl hd
  have e2 : 54 + 3 * x + 2 = 56 + 3 * x := by omega
  have e1 : 54 + 3 * x + 1 = 55 + 3 * x := by omega
  refine ⟨?_, fun h0 => ?_, ?_⟩
  · unfold f_X3_leavesGap
    rw [if_neg (by decide), if_neg (by decide), if_neg (by decide), if_pos (ix (show i < 201 by omega) (by omega)), nI_clamp (by omega), e2, (hd i (by omega)).1, if_pos (hg i hi)]
  · unfold f_X3_reckoned
    rw [if_neg (by decide), if_neg (by decide), if_neg (by decide), if_pos (ix (show i < 201 by omega) (by omega)), nI_clamp (by omega), e1, (hd i (by omega)).2, show W7 K g v i = K.toInt64 * v i from if_pos h0]
  · rcases hg i hi with e | e
    · exact Or.inl e
    · exact Or.inr ⟨e, if_neg (by rw [e]; decide)⟩
theorem rs7 {x n : Nat} {K : Int32} {A : Nat → Int32} {B : Nat → Int64} (hx : x < 4) (hn : n ≤ 201) (hA : ∀ j, j < n → A (201 * x + j) = 0 ∨ A (201 * x + j) = 1) :
    ∀ i, i < n → ∀ T : mM, T.1 93 = A → T.2.1 92 = B → f_X12_single 7 (nI x) K (nI i) T = some ((), wr T 94 95 i (A (201 * x + i)) (W7 K (fun j => A (201 * x + j)) (fun j => B (201 * x + j)) i)) := by
  intro i hi T h1 h2
  refine sg_head hx (by omega) ?_
  rw [if_neg (by decide), if_neg (by decide), if_neg (by decide), if_neg (by decide), h1, h2, s254 (by omega) (hA i hi)]
  rfl
/-- fill -/
theorem rs6 {x n : Nat} {K : Int32} {A : Nat → Int32} {B : Nat → Int64} (hx : x < 4) (hn : n ≤ 201) (hA : ∀ j, j < n → A (201 * x + j) = 0 ∨ A (201 * x + j) = 1) :
    ∀ i, i < n → ∀ T : mM, T.1 93 = A → T.2.1 92 = B → (∀ j, j < i → T.1 95 j = fG (fun j => A (201 * x + j)) j ∧ T.2.1 94 j = fW (fun j => A (201 * x + j)) (fun j => B (201 * x + j)) j) →
      f_X12_single 6 (nI x) K (nI i) T = some ((), wr T 94 95 i (fG (fun j => A (201 * x + j)) i) (fW (fun j => A (201 * x + j)) (fun j => B (201 * x + j)) i)) := by
  intro i hi T h1 h2 hd
  refine sg_head hx (by omega) ?_
  rw [if_neg (by decide), if_neg (by decide), if_neg (by decide), if_pos rfl, h1, h2]
  have ek : kn (fun j => A (201 * x + j)) (i + 1) = if A (201 * x + i) = 0 then 1 else kn (fun j => A (201 * x + j)) i := rfl
  have el : lts (fun j => A (201 * x + j)) (fun j => B (201 * x + j)) (i + 1) = if A (201 * x + i) = 0 then B (201 * x + i) else lts (fun j => A (201 * x + j)) (fun j => B (201 * x + j)) i := rfl
  rcases hA i hi with a | a
  · rw [if_pos a] at ek el
    rw [if_pos a, s254 (by omega) (Or.inl a), a, if_pos rfl]
    unfold fG fW
    rw [ek, el, if_neg (by decide), if_neg (by decide)]
  · have a' : ¬ A (201 * x + i) = 0 := by rw [a]; decide
    rw [if_neg a'] at ek el
    rw [if_neg a', s254 (by omega) (Or.inr a), if_neg a', a]
    by_cases i0 : i = 0
    · subst i0
      rw [if_pos (show nI 0 ≤ 0 by decide)]
      unfold fG fW
      rw [ek, el]
      rfl
    · rw [if_neg (nI_nle (by omega) (by omega)), show nI i - (1 : Int32) = nI (i - 1) from nI_sub (b := 1) (by omega), if_pos (ix (show i - 1 < 201 by omega) (by omega)), if_pos (ix (show i - 1 < 201 by omega) (by omega)), nI_clamp (by omega), (hd (i - 1) (by omega)).1, (hd (i - 1) (by omega)).2, s254 (by omega) (Or.inl rfl), if_pos (show (0 : Int32) = 0 from rfl)]
      unfold fG fW
      rw [show i - 1 + 1 = i by omega, ek, el]
      rcases kn_01 (fun j => A (201 * x + j)) i with e | e
      · rw [if_pos e, if_pos e, if_neg (by decide)]
      · have e' : ¬ kn (fun j => A (201 * x + j)) i = 0 := by rw [e]; decide
        simp only [if_neg e', if_true]
