/-! PURE: reckon: writes place by place; the class's loops -/
def wr (S : mM) (a b i : Nat) (g : Int32) (w : Int64) : mM := setI (setJ S a i w) b i g
def Wd (a b o lo hi : Nat) (G : Nat → Int32) (W : Nat → Int64) (S S' : mM) : Prop :=
  (∀ c, c ≠ b → S'.1 c = S.1 c) ∧ (∀ c, c ≠ a → S'.2.1 c = S.2.1 c) ∧ S'.2.2 = S.2.2 ∧
  (∀ j, S'.1 b j = if o + lo ≤ j ∧ j < o + hi then G (j - o) else S.1 b j) ∧ (∀ j, S'.2.1 a j = if o + lo ≤ j ∧ j < o + hi then W (j - o) else S.2.1 a j)
theorem wr_I (S : mM) (a b i : Nat) (g : Int32) (w : Int64) {c : Nat} (h : c ≠ b) : (wr S a b i g w).1 c = S.1 c := by
  unfold wr
  rw [setI_row _ _ _ _ h, setJ_1]
theorem wr_J (S : mM) (a b i : Nat) (g : Int32) (w : Int64) {c : Nat} (h : c ≠ a) : (wr S a b i g w).2.1 c = S.2.1 c := by
  unfold wr
  rw [setI_2, setJ_row _ _ _ _ h]
theorem wr_Ij (S : mM) (a b i : Nat) (g : Int32) (w : Int64) {j : Nat} (h : j ≠ i) (c : Nat) : (wr S a b i g w).1 c j = S.1 c j := by
  unfold wr
  rw [setI_slot _ _ _ _ h, setJ_1]
theorem wr_Jj (S : mM) (a b i : Nat) (g : Int32) (w : Int64) {j : Nat} (h : j ≠ i) (c : Nat) : (wr S a b i g w).2.1 c j = S.2.1 c j := by
  unfold wr
  rw [setI_2, setJ_2, if_neg (fun q => h q.2)]
theorem wr_Ia (S : mM) (a b i : Nat) (g : Int32) (w : Int64) : (wr S a b i g w).1 b i = g := setI_same _ _ _ _
theorem wr_Ja (S : mM) (a b i : Nat) (g : Int32) (w : Int64) : (wr S a b i g w).2.1 a i = w := by
  unfold wr
  rw [setI_2, setJ_2, if_pos ⟨rfl, rfl⟩]
theorem Wd.nil {a b o lo hi : Nat} {G : Nat → Int32} {W : Nat → Int64} {S : mM} (h : hi ≤ lo) : Wd a b o lo hi G W S S :=
  ⟨fun _ _ => rfl, fun _ _ => rfl, rfl, fun j => by rw [if_neg (by omega)], fun j => by rw [if_neg (by omega)]⟩
theorem Wd.up {a b o lo hi : Nat} {G : Nat → Int32} {W : Nat → Int64} {S S' : mM} (h : Wd a b o (lo + 1) hi G W (wr S a b (o + lo) (G lo) (W lo)) S') (hl : lo < hi) : Wd a b o lo hi G W S S' := by
  obtain ⟨h1, h2, h3, h4, h5⟩ := h
  refine ⟨fun c hc => by rw [h1 c hc, wr_I _ _ _ _ _ _ hc], fun c hc => by rw [h2 c hc, wr_J _ _ _ _ _ _ hc], h3, fun j => ?_, fun j => ?_⟩
  · rw [h4 j]
    by_cases e : j = o + lo
    · subst e
      rw [if_neg (by omega), if_pos (by omega), wr_Ia, Nat.add_sub_cancel_left]
    · rw [wr_Ij _ _ _ _ _ _ e]
      by_cases q : o + lo ≤ j ∧ j < o + hi
      · rw [if_pos (by omega), if_pos q]
      · rw [if_neg (by omega), if_neg q]
  · rw [h5 j]
    by_cases e : j = o + lo
    · subst e
      rw [if_neg (by omega), if_pos (by omega), wr_Ja, Nat.add_sub_cancel_left]
    · rw [wr_Jj _ _ _ _ _ _ e]
      by_cases q : o + lo ≤ j ∧ j < o + hi
      · rw [if_pos (by omega), if_pos q]
      · rw [if_neg (by omega), if_neg q]
theorem Wd.dn {a b o m : Nat} {G : Nat → Int32} {W : Nat → Int64} {S S' : mM} (h : Wd a b o 0 m G W (wr S a b (o + m) (G m) (W m)) S') : Wd a b o 0 (m + 1) G W S S' := by
  obtain ⟨h1, h2, h3, h4, h5⟩ := h
  refine ⟨fun c hc => by rw [h1 c hc, wr_I _ _ _ _ _ _ hc], fun c hc => by rw [h2 c hc, wr_J _ _ _ _ _ _ hc], h3, fun j => ?_, fun j => ?_⟩
  · rw [h4 j]
    by_cases e : j = o + m
    · subst e
      rw [if_neg (by omega), if_pos (by omega), wr_Ia, Nat.add_sub_cancel_left]
    · rw [wr_Ij _ _ _ _ _ _ e]
      by_cases q : o + 0 ≤ j ∧ j < o + (m + 1)
      · rw [if_pos (by omega), if_pos q]
      · rw [if_neg (by omega), if_neg q]
  · rw [h5 j]
    by_cases e : j = o + m
    · subst e
      rw [if_neg (by omega), if_pos (by omega), wr_Ja, Nat.add_sub_cancel_left]
    · rw [wr_Jj _ _ _ _ _ _ e]
      by_cases q : o + 0 ≤ j ∧ j < o + (m + 1)
      · rw [if_pos (by omega), if_pos q]
      · rw [if_neg (by omega), if_neg q]
theorem put_eq {S : mM} {r i : Nat} {v : Int64} (hi : i < 201) : f_X3_put (54 + 3 * r) (nI i) v S = some ((), wr S (55 + 3 * r) (56 + 3 * r) i 0 v) := by
  unfold f_X3_put
  rw [if_pos (ix hi (by omega)), nI_clamp (by omega)]
  simp only [bnd, if_pos (ixc hi (by omega)), show 54 + 3 * r + 1 = 55 + 3 * r by omega, show 54 + 3 * r + 2 = 56 + 3 * r by omega]
  rfl
theorem putGap_eq {S : mM} {r i : Nat} (hi : i < 201) : f_X3_putGap (54 + 3 * r) (nI i) S = some ((), wr S (55 + 3 * r) (56 + 3 * r) i 1 0) := by
  unfold f_X3_putGap
  rw [if_pos (ix hi (by omega)), nI_clamp (by omega)]
  simp only [bnd, if_pos (ixc hi (by omega)), show 54 + 3 * r + 1 = 55 + 3 * r by omega, show 54 + 3 * r + 2 = 56 + 3 * r by omega]
  rfl
def g2 (a b : Int32) : Int32 := if a = 0 ∧ b = 0 then 0 else 1
def jn (w : Int32) (a b : Int64) : Int64 := if w = 0 then a + b else if w = 1 then a - b else a * b
theorem joined_eq (w : Int32) (a b : Int64) (S : mM) : f_X3_joined w a b S = some (jn w a b, S) := by
  unfold f_X3_joined jn
  by_cases h0 : w = 0
  · rw [if_pos h0, if_pos h0]
  · rw [if_neg h0, if_neg h0]
    by_cases h1 : w = 1
    · rw [if_pos h1, if_pos h1]
    · rw [if_neg h1, if_neg h1]
theorem two_loop {r x y n : Nat} {w : Int32} {G : Nat → Int32} {W : Nat → Int64} (hn : n ≤ 201) : ∀ (m i f : Nat) (S : mM), i + m = n → m < f →
    (∀ j, i ≤ j → j < n → G j = g2 (S.1 (56 + 3 * x) j) (S.1 (56 + 3 * y) j) ∧ W j = if G j = 0 then jn w (S.2.1 (55 + 3 * x) j) (S.2.1 (55 + 3 * y) j) else 0) →
    ∃ S', f_X3_reckonTwo_16 f (54 + 3 * r) w (54 + 3 * x) (54 + 3 * y) (nI n) (nI i) S = some ((), setI S' (54 + 3 * r) 2 (nI n)) ∧ Wd (55 + 3 * r) (56 + 3 * r) 0 i n G W S S'
  | 0, i, f + 1, S, hm, _, _ => ⟨S, by
      unfold f_X3_reckonTwo_16
      rw [if_pos (nI_le (by omega) (by omega))]
      rfl, Wd.nil (by omega)⟩
  | m + 1, i, f + 1, S, hm, hf, h => by
    obtain ⟨hG, hW⟩ := h i (Nat.le_refl i) (by omega)
    have step : f_X3_reckonTwo_16 (f + 1) (54 + 3 * r) w (54 + 3 * x) (54 + 3 * y) (nI n) (nI i) S = f_X3_reckonTwo_16 f (54 + 3 * r) w (54 + 3 * x) (54 + 3 * y) (nI n) (nI (i + 1)) (wr S (55 + 3 * r) (56 + 3 * r) i (G i) (W i)) := by
      conv => lhs; unfold f_X3_reckonTwo_16
      rw [if_neg (nI_ge (by omega) (by omega)), if_pos (ix (show i < 201 by omega) (by omega)), nI_clamp (by omega), show 54 + 3 * x + 2 = 56 + 3 * x by omega, show 54 + 3 * y + 2 = 56 + 3 * y by omega, show 54 + 3 * x + 1 = 55 + 3 * x by omega, show 54 + 3 * y + 1 = 55 + 3 * y by omega]
      simp only [if_pos (ixc (show i < 201 by omega) (by omega))]
      have bad : g2 (S.1 (56 + 3 * x) i) (S.1 (56 + 3 * y) i) = 1 → (mBind (f_X3_putGap (54 + 3 * r) (nI i) S) fun _ S8 => bnd (nI i + (1 : Int32)) fun x9 => f_X3_reckonTwo_16 f (54 + 3 * r) w (54 + 3 * x) (54 + 3 * y) (nI n) x9 S8) = f_X3_reckonTwo_16 f (54 + 3 * r) w (54 + 3 * x) (54 + 3 * y) (nI n) (nI (i + 1)) (wr S (55 + 3 * r) (56 + 3 * r) i (G i) (W i)) := fun e => by
        rw [e] at hG
        rw [hG, if_neg (by decide)] at hW
        rw [putGap_eq (by omega), mBind_of, hG, hW]
        simp only [bnd, nI_1]
      by_cases gx : S.1 (56 + 3 * x) i = 0
      · rw [if_pos gx]
        by_cases gy : S.1 (56 + 3 * y) i = 0
        · rw [if_pos gy, joined_eq, mBind_of, put_eq (by omega), mBind_of]
          have e : g2 (S.1 (56 + 3 * x) i) (S.1 (56 + 3 * y) i) = 0 := if_pos ⟨gx, gy⟩
          rw [e] at hG
          rw [hG, if_pos rfl] at hW
          rw [hG, hW]
          simp only [bnd, nI_1]
        · rw [if_neg gy]
          exact bad (if_neg (fun z => gy z.2))
      · rw [if_neg gx]
        exact bad (if_neg (fun z => gx z.1))
    obtain ⟨S', k1, k2⟩ := two_loop (r := r) (x := x) (y := y) (w := w) (G := G) (W := W) hn m (i + 1) f (wr S (55 + 3 * r) (56 + 3 * r) i (G i) (W i)) (by omega) (by omega) (fun j h1 h2 => by
      rw [wr_Ij _ _ _ _ _ _ (by omega), wr_Ij _ _ _ _ _ _ (by omega), wr_Jj _ _ _ _ _ _ (by omega), wr_Jj _ _ _ _ _ _ (by omega)]
      exact h j (by omega) h2)
    refine ⟨S', by rw [step]; exact k1, Wd.up ?_ (by omega)⟩
    rw [Nat.zero_add]
    exact k2
/-- from the last place on -/
theorem one_loop {r x n : Nat} {w K : Int32} {g G : Nat → Int32} {v W : Nat → Int64} (hn : n ≤ 201)
    (hst : ∀ i, i < n → ∀ T : mM, T.1 (54 + 3 * x) 2 = nI n → (∀ j, j ≤ i → T.1 (56 + 3 * x) j = g j ∧ T.2.1 (55 + 3 * x) j = v j) →
      f_X3_leavesGap (54 + 3 * x) w (nI i) K T = some (G i, T) ∧ (G i = 0 → f_X3_reckoned (54 + 3 * x) w (nI i) K T = some (W i, T)) ∧ (G i = 0 ∨ (G i = 1 ∧ W i = 0))) :
    ∀ (m f : Nat) (S : mM), m ≤ n → m < f → S.1 (54 + 3 * x) 2 = nI n → (∀ j, j < m → S.1 (56 + 3 * x) j = g j ∧ S.2.1 (55 + 3 * x) j = v j) →
      ∃ S', f_X3_reckonOne_28 f (54 + 3 * r) w (54 + 3 * x) K (nI m - (1 : Int32)) S = some ((), S') ∧ Wd (55 + 3 * r) (56 + 3 * r) 0 0 m G W S S'
  | 0, f + 1, S, _, _, _, _ => ⟨S, by
      unfold f_X3_reckonOne_28
      rw [if_pos (show nI 0 - (1 : Int32) < 0 by decide)], Wd.nil (by omega)⟩
  | m + 1, f + 1, S, hm, hf, hl, hd => by
    obtain ⟨s1, s2, s3⟩ := hst m (by omega) S hl (fun j hj => hd j (by omega))
    have em : nI m + (-1 : Int32) = nI m - (1 : Int32) := (Int32.sub_eq_add_neg _ _).symm
    have step : f_X3_reckonOne_28 (f + 1) (54 + 3 * r) w (54 + 3 * x) K (nI (m + 1) - (1 : Int32)) S = f_X3_reckonOne_28 f (54 + 3 * r) w (54 + 3 * x) K (nI m - (1 : Int32)) (wr S (55 + 3 * r) (56 + 3 * r) m (G m) (W m)) := by
      rw [nI_pred]
      conv => lhs; unfold f_X3_reckonOne_28
      rw [if_neg (nI_pos (by omega)), s1, mBind_of]
      rcases s3 with e | ⟨e, e'⟩
      · rw [if_pos e, s2 e, mBind_of, put_eq (by omega), mBind_of, e]
        simp only [bnd, em]
      · rw [if_neg (by rw [e]; decide), putGap_eq (by omega), mBind_of, e, e']
        simp only [bnd, em]
    obtain ⟨S', k1, k2⟩ := one_loop (r := r) hn hst m f (wr S (55 + 3 * r) (56 + 3 * r) m (G m) (W m)) (by omega) (by omega) (by rw [wr_I _ _ _ _ _ _ (by omega)]; exact hl) (fun j hj => by
      rw [wr_Ij _ _ _ _ _ _ (by omega), wr_Jj _ _ _ _ _ _ (by omega)]
      exact hd j (by omega))
    refine ⟨S', by rw [step]; exact k1, Wd.dn ?_⟩
    rw [Nat.zero_add]
    exact k2
def kn (g : Nat → Int32) : Nat → Int32
  | 0 => 0
  | i + 1 => if g i = 0 then 1 else kn g i
def lts (g : Nat → Int32) (v : Nat → Int64) : Nat → Int64
  | 0 => 0
  | i + 1 => if g i = 0 then v i else lts g v i
theorem kn_01 (g : Nat → Int32) : ∀ i, kn g i = 0 ∨ kn g i = 1
  | 0 => Or.inl rfl
  | i + 1 => by
    show (if g i = 0 then (1 : Int32) else kn g i) = 0 ∨ (if g i = 0 then (1 : Int32) else kn g i) = 1
    by_cases h : g i = 0
    · rw [if_pos h]
      exact Or.inr rfl
    · rw [if_neg h]
      exact kn_01 g i
def fG (g : Nat → Int32) (i : Nat) : Int32 := if kn g (i + 1) = 0 then 1 else 0
def fW (g : Nat → Int32) (v : Nat → Int64) (i : Nat) : Int64 := if kn g (i + 1) = 0 then 0 else lts g v (i + 1)
theorem fill_loop {r x n : Nat} {g : Nat → Int32} {v : Nat → Int64} (hn : n ≤ 201) : ∀ (m i f : Nat) (S : mM), i + m = n → m < f → S.1 (54 + 3 * r) 2 = nI n →
    (∀ j, i ≤ j → j < n → S.1 (56 + 3 * x) j = g j ∧ S.2.1 (55 + 3 * x) j = v j) →
    ∃ S', f_X3_fillFrom_15 f (54 + 3 * r) (54 + 3 * x) (kn g i) (lts g v i) (nI i) S = some ((), S') ∧ Wd (55 + 3 * r) (56 + 3 * r) 0 i n (fG g) (fW g v) S S'
  | 0, i, f + 1, S, hm, _, hl, _ => ⟨S, by
      unfold f_X3_fillFrom_15
      rw [hl, if_pos (nI_le (by omega) (by omega))], Wd.nil (by omega)⟩
  | m + 1, i, f + 1, S, hm, hf, hl, h => by
    obtain ⟨d1, d2⟩ := h i (Nat.le_refl i) (by omega)
    have step : f_X3_fillFrom_15 (f + 1) (54 + 3 * r) (54 + 3 * x) (kn g i) (lts g v i) (nI i) S = f_X3_fillFrom_15 f (54 + 3 * r) (54 + 3 * x) (kn g (i + 1)) (lts g v (i + 1)) (nI (i + 1)) (wr S (55 + 3 * r) (56 + 3 * r) i (fG g i) (fW g v i)) := by
      have h44 : f_X3_fillFrom_44 (f_X3_fillFrom_15 f) (54 + 3 * r) (54 + 3 * x) (kn g (i + 1)) (lts g v (i + 1)) (nI i) S = f_X3_fillFrom_15 f (54 + 3 * r) (54 + 3 * x) (kn g (i + 1)) (lts g v (i + 1)) (nI (i + 1)) (wr S (55 + 3 * r) (56 + 3 * r) i (fG g i) (fW g v i)) := by
        unfold f_X3_fillFrom_44 fG fW
        by_cases e : kn g (i + 1) = 0
        · rw [if_pos e, if_pos e, if_pos e, putGap_eq (by omega), mBind_of]
          simp only [bnd, nI_1]
        · rw [if_neg e, if_neg e, if_neg e, put_eq (by omega), mBind_of]
          simp only [bnd, nI_1]
      rw [← h44]
      conv => lhs; unfold f_X3_fillFrom_15
      rw [hl, if_neg (nI_ge (by omega) (by omega)), if_pos (ix (show i < 201 by omega) (by omega)), nI_clamp (by omega), show 54 + 3 * x + 2 = 56 + 3 * x by omega, show 54 + 3 * x + 1 = 55 + 3 * x by omega, d1, d2]
      have ek : kn g (i + 1) = if g i = 0 then 1 else kn g i := rfl
      have el : lts g v (i + 1) = if g i = 0 then v i else lts g v i := rfl
      by_cases e : g i = 0
      · rw [ek, el, if_pos e, if_pos e, if_pos e, if_pos (ixc (show i < 201 by omega) (by omega))]
        rfl
      · rw [ek, el, if_neg e, if_neg e, if_neg e]
    obtain ⟨S', k1, k2⟩ := fill_loop (r := r) (x := x) (g := g) (v := v) hn m (i + 1) f (wr S (55 + 3 * r) (56 + 3 * r) i (fG g i) (fW g v i)) (by omega) (by omega) (by rw [wr_I _ _ _ _ _ _ (by omega)]; exact hl) (fun j h1 h2 => by
      rw [wr_Ij _ _ _ _ _ _ (by omega), wr_Jj _ _ _ _ _ _ (by omega)]
      exact h j (by omega) h2)
    refine ⟨S', by rw [step]; exact k1, Wd.up ?_ (by omega)⟩
    rw [Nat.zero_add]
    exact k2
/-! the reference's loops -/
theorem s254 {T : mM} {i : Nat} {y : Int32} {u : Int64} (hi : i < 201) (h : y = 0 ∨ y = 1) : f_X12_single_254 (nI i) y u T = some ((), wr T 94 95 i y (if y = 0 then u else 0)) := by
  unfold f_X12_single_254
  rw [if_pos (ix hi (by omega)), if_pos (ix hi (by omega)), nI_clamp (by omega)]
  simp only [bnd, if_pos (ixc hi (by omega))]
  rcases h with rfl | rfl
  · rw [if_pos rfl, if_pos rfl]
    rfl
  · rw [if_neg (by decide), if_neg (by decide)]
    rfl
theorem ref_one {r x n : Nat} {w K y : Int32} {G A : Nat → Int32} {W B : Nat → Int64} (hn : n ≤ 201) (hw : (3 : Int32) ≤ w)
    (hs : ∀ i, i < n → ∀ T : mM, T.1 93 = A → T.2.1 92 = B → (∀ j, j < i → T.1 95 j = G j ∧ T.2.1 94 j = W j) → f_X12_single w (nI x) K (nI i) T = some ((), wr T 94 95 i (G i) (W i))) :
    ∀ (m i f : Nat) (T : mM), i + m = n → m < f → T.1 93 = A → T.2.1 92 = B → (∀ j, j < i → T.1 95 j = G j ∧ T.2.1 94 j = W j) →
      ∃ T', f_X12_reckon_135 f (nI r) w (nI x) y K (nI n) (nI i) T = f_X12_reckon_307 mFuel (nI r) (nI n) 0 T' ∧ Wd 94 95 0 i n G W T T'
  | 0, i, f + 1, T, hm, _, _, _, _ => ⟨T, by
      unfold f_X12_reckon_135
      rw [if_pos (nI_le (by omega) (by omega))], Wd.nil (by omega)⟩
  | m + 1, i, f + 1, T, hm, hf, hA, hB, hd => by
    obtain ⟨T', k1, k2⟩ := ref_one (r := r) (x := x) (y := y) hn hw hs m (i + 1) f (wr T 94 95 i (G i) (W i)) (by omega) (by omega) (by rw [wr_I _ _ _ _ _ _ (by omega)]; exact hA) (by rw [wr_J _ _ _ _ _ _ (by omega)]; exact hB) (fun j hj => by
      by_cases e : j = i
      · subst e
        rw [wr_Ia, wr_Ja]
        exact ⟨rfl, rfl⟩
      · rw [wr_Ij _ _ _ _ _ _ e, wr_Jj _ _ _ _ _ _ e]
        exact hd j (by omega))
    refine ⟨T', ?_, Wd.up ?_ (by omega)⟩
    · unfold f_X12_reckon_135
      rw [if_neg (nI_ge (by omega) (by omega)), if_pos hw, hs i (by omega) T hA hB hd, mBind_of]
      simp only [bnd, nI_1]
      exact k1
    · rw [Nat.zero_add]
      exact k2
theorem ref_two {r x y n : Nat} {w K : Int32} {G A : Nat → Int32} {W B : Nat → Int64} (hn : n ≤ 201) (hx : x < 4) (hy : y < 4) (hw : ¬ (3 : Int32) ≤ w)
    (hG : ∀ j, j < n → G j = g2 (A (201 * x + j)) (A (201 * y + j)) ∧ W j = if G j = 0 then jn w (B (201 * x + j)) (B (201 * y + j)) else 0) :
    ∀ (m i f : Nat) (T : mM), i + m = n → m < f → T.1 93 = A → T.2.1 92 = B →
      ∃ T', f_X12_reckon_135 f (nI r) w (nI x) (nI y) K (nI n) (nI i) T = f_X12_reckon_307 mFuel (nI r) (nI n) 0 T' ∧ Wd 94 95 0 i n G W T T'
  | 0, i, f + 1, T, hm, _, _, _ => ⟨T, by
      unfold f_X12_reckon_135
      rw [if_pos (nI_le (by omega) (by omega))], Wd.nil (by omega)⟩
  | m + 1, i, f + 1, T, hm, hf, hA, hB => by
    obtain ⟨T', k1, k2⟩ := ref_two (r := r) (K := K) hn hx hy hw hG m (i + 1) f (wr T 94 95 i (G i) (W i)) (by omega) (by omega) (by rw [wr_I _ _ _ _ _ _ (by omega)]; exact hA) (by rw [wr_J _ _ _ _ _ _ (by omega)]; exact hB)
    obtain ⟨q1, q2⟩ := hG i (by omega)
    refine ⟨T', ?_, Wd.up ?_ (by omega)⟩
    · have x8 : 0 ≤ nI (201 * x + i) ∧ (nI (201 * x + i)).toNatClampNeg < 804 := ix (by omega) (by omega)
      have y8 : 0 ≤ nI (201 * y + i) ∧ (nI (201 * y + i)).toNatClampNeg < 804 := ix (by omega) (by omega)
      have cx : (nI (201 * x + i)).toNatClampNeg = 201 * x + i := nI_clamp (by omega)
      have cy : (nI (201 * y + i)).toNatClampNeg = 201 * y + i := nI_clamp (by omega)
      have i8 : 0 ≤ nI i ∧ (nI i).toNatClampNeg < 201 := ix (by omega) (by omega)
      have ci : (nI i).toNatClampNeg = i := nI_clamp (by omega)
      have h260 : ∀ (b : Int32) (z : Int64), b = 0 ∨ b = 1 → f_X12_reckon_260 (f_X12_reckon_135 f) (nI r) w (nI x) (nI y) K (nI n) (nI i) z (setI T 95 i b) = f_X12_reckon_135 f (nI r) w (nI x) (nI y) K (nI n) (nI (i + 1)) (wr T 94 95 i b (if b = 0 then z else 0)) := fun b z hb => by
        unfold f_X12_reckon_260
        rw [if_pos i8, if_pos i8, if_pos i8, ci, setI_same]
        rcases hb with rfl | rfl
        · rw [if_pos rfl, if_pos rfl]
          simp only [bnd, nI_1]
          rfl
        · rw [if_neg (by decide), if_neg (by decide)]
          simp only [bnd, nI_1]
          rfl
      have h199 : ∀ b : Int32, b = 0 ∨ b = 1 → f_X12_reckon_199 (f_X12_reckon_135 f) (nI r) w (nI x) (nI y) K (nI n) (nI i) (nI (201 * x + i)) (nI (201 * y + i)) b (nI i) T = f_X12_reckon_135 f (nI r) w (nI x) (nI y) K (nI n) (nI (i + 1)) (wr T 94 95 i b (if b = 0 then jn w (B (201 * x + i)) (B (201 * y + i)) else 0)) := fun b hb => by
        unfold f_X12_reckon_199 jn
        rw [if_pos i8, ci]
        have eb : vp_nar .boolean b = b := by rcases hb with rfl | rfl <;> rfl
        simp only [bnd, eb, if_pos x8, if_pos y8, cx, cy, setI_2, hB]
        have x8c : 0 ≤ nI (201 * x + i) ∧ 201 * x + i < 804 := ixc (by omega) (by omega)
        have y8c : 0 ≤ nI (201 * y + i) ∧ 201 * y + i < 804 := ixc (by omega) (by omega)
        simp only [if_pos x8c, if_pos y8c, h260 b _ hb]
        by_cases h0 : w = 0
        · simp only [if_pos h0]
        · by_cases h1 : w = 1
          · simp only [if_neg h0, if_pos h1]
          · simp only [if_neg h0, if_neg h1]
      have e1 := h199 1 (Or.inr rfl)
      rw [if_neg (by decide)] at e1
      have e0 := h199 0 (Or.inl rfl)
      rw [if_pos rfl] at e0
      unfold f_X12_reckon_135
      rw [if_neg (nI_ge (by omega) (by omega)), if_neg hw, rowAt, rowAt]
      simp only [bnd]
      rw [if_pos x8, if_pos y8, cx, cy, hA]
      unfold f_X12_reckon_194
      rw [e1, e0]
      by_cases a1 : A (201 * x + i) = 0
      · by_cases a2 : A (201 * y + i) = 0
        · rw [if_pos a1, if_pos a2]
          rw [show g2 (A (201 * x + i)) (A (201 * y + i)) = 0 from if_pos ⟨a1, a2⟩] at q1
          rw [q1, if_pos rfl] at q2
          rw [q1, q2] at k1
          exact k1
        · rw [if_pos a1, if_neg a2]
          rw [show g2 (A (201 * x + i)) (A (201 * y + i)) = 1 from if_neg (fun z => a2 z.2)] at q1
          rw [q1, if_neg (by decide)] at q2
          rw [q1, q2] at k1
          exact k1
      · rw [if_neg a1]
        rw [show g2 (A (201 * x + i)) (A (201 * y + i)) = 1 from if_neg (fun z => a1 z.1)] at q1
        rw [q1, if_neg (by decide)] at q2
        rw [q1, q2] at k1
        exact k1
    · rw [Nat.zero_add]
      exact k2
theorem ref_copy {r n : Nat} {G : Nat → Int32} {W : Nat → Int64} (hr : r < 4) (hn : n ≤ 201) : ∀ (m i f : Nat) (T : mM), i + m = n → m < f → (∀ j, j < n → T.1 95 j = G j ∧ T.2.1 94 j = W j ∧ (G j = 0 ∨ G j = 1)) →
    ∃ T', f_X12_reckon_307 f (nI r) (nI n) (nI i) T = some (nI n, setI T' 91 r (nI n)) ∧ Wd 92 93 (201 * r) i n G W T T'
  | 0, i, f + 1, T, hm, _, _ => ⟨T, by
      unfold f_X12_reckon_307
      rw [if_pos (nI_le (by omega) (by omega)), if_pos (ix (show r < 4 by omega) (by omega)), nI_clamp (by omega)]
      rfl, Wd.nil (by omega)⟩
  | m + 1, i, f + 1, T, hm, hf, h => by
    obtain ⟨h1, h2, h3⟩ := h i (by omega)
    obtain ⟨T', k1, k2⟩ := ref_copy (r := r) (G := G) (W := W) hr hn m (i + 1) f (wr T 92 93 (201 * r + i) (G i) (W i)) (by omega) (by omega) (fun j hj => by
      rw [wr_I _ _ _ _ _ _ (by omega), wr_J _ _ _ _ _ _ (by omega)]
      exact h j hj)
    refine ⟨T', ?_, Wd.up k2 (by omega)⟩
    unfold f_X12_reckon_307
    rw [if_neg (nI_ge (by omega) (by omega)), if_pos (ix (show i < 201 by omega) (by omega)), rowAt, if_pos (ix (show 201 * r + i < 804 by omega) (by omega)), nI_clamp (by omega), nI_clamp (by omega), h2]
    simp only [bnd, if_pos (ixc (show i < 201 by omega) (by omega)), if_pos (ixc (show 201 * r + i < 804 by omega) (by omega)), setJ_1, h1, nI_1]
    have eb : vp_nar .boolean (G i) = G i := by rcases h3 with e | e <;> rw [e] <;> rfl
    rw [eb]
    exact k1
