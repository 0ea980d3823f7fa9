/-! PURE: the instrument: highs -/
theorem hiN_le (v : Nat → Int32) (a : Int32) (f : Nat) : ∀ N, hiN v a f N ≤ N
  | 0 => Nat.le_refl 0
  | N + 1 => by
    have ih := hiN_le v a f N
    show (if N ≤ f then 0 else if v N < a then 0 else if v (N - 1) < a then 1 else if hiN v a f N = 0 then 0 else hiN v a f N + 1) ≤ N + 1
    split
    · omega
    · split
      · omega
      · split
        · omega
        · split <;> omega
theorem hiN_congr {v w : Nat → Int32} {a : Int32} {f : Nat} : ∀ N, (∀ k, k < N → v k = w k) → hiN v a f N = hiN w a f N
  | 0, _ => rfl
  | N + 1, h => by
    show (if N ≤ f then 0 else if v N < a then 0 else if v (N - 1) < a then 1 else if hiN v a f N = 0 then 0 else hiN v a f N + 1) = (if N ≤ f then 0 else if w N < a then 0 else if w (N - 1) < a then 1 else if hiN w a f N = 0 then 0 else hiN w a f N + 1)
    rw [h N (by omega), h (N - 1) (by omega), hiN_congr N (fun k hk => h k (by omega))]
theorem hiN_0 {v : Nat → Int32} {a : Int32} {f N : Nat} (h : N ≤ f + 1) : hiN v a f N = 0 := by
  cases N with
  | zero => rfl
  | succ N => exact if_pos (by omega)
theorem hiN_s {v : Nat → Int32} {a : Int32} {f N : Nat} (h : f < N) : hiN v a f (N + 1) = if v N < a then 0 else if v (N - 1) < a then 1 else if hiN v a f N = 0 then 0 else hiN v a f N + 1 := if_neg (by omega)
theorem hiN_hi {v : Nat → Int32} {a : Int32} {f N : Nat} (h : 0 < hiN v a f N) : ¬ v (N - 1) < a := by
  cases N with
  | zero => exact absurd h (Nat.lt_irrefl 0)
  | succ N =>
    intro e
    have : hiN v a f (N + 1) = 0 := by
      show (if N ≤ f then 0 else if v N < a then 0 else if v (N - 1) < a then 1 else if hiN v a f N = 0 then 0 else hiN v a f N + 1) = 0
      by_cases q : N ≤ f
      · rw [if_pos q]
      · rw [if_neg q, if_pos (show v N < a from e)]
    omega
theorem hiN_none {v : Nat → Int32} {a : Int32} {f : Nat} : ∀ N, (∀ k, f ≤ k → k < N → ¬ v k < a) → hiN v a f N = 0
  | 0, _ => rfl
  | N + 1, h => by
    by_cases q : f < N
    · rw [hiN_s q, if_neg (h N (by omega) (by omega)), if_neg (h (N - 1) (by omega) (by omega)), if_pos (hiN_none N (fun k h1 h2 => h k h1 (by omega)))]
    · exact hiN_0 (by omega)
theorem hiN_len {v : Nat → Int32} {a : Int32} {f j : Nat} (hj : f ≤ j) (hv : v j < a) : ∀ N, j < N → (∀ k, j < k → k < N → ¬ v k < a) → hiN v a f N = N - 1 - j
  | 0, h, _ => absurd h (by omega)
  | N + 1, h, hh => by
    by_cases q : j = N
    · subst q
      rw [show j + 1 - 1 - j = 0 by omega]
      by_cases z : f < j
      · rw [hiN_s z, if_pos hv]
      · exact hiN_0 (by omega)
    · rw [hiN_s (by omega), if_neg (hh N (by omega) (by omega))]
      by_cases z : N - 1 = j
      · rw [z, if_pos hv]
        omega
      · rw [if_neg (hh (N - 1) (by omega) (by omega)), hiN_len hj hv N (by omega) (fun k h1 h2 => hh k h1 (by omega)), if_neg (by omega)]
        omega
theorem pred_lt {f : Nat} (h : f < 2 ^ 31) : nI f - (1 : Int32) < nI f := by
  rw [Int32.lt_iff_toInt_lt, Int32.toInt_sub, nI_toInt h, show (1 : Int32).toInt = 1 by decide, Int.bmod_eq_of_le (by omega) (by omega)]
  omega
theorem of_eq {T : mM} {k : Nat} {t : Int32} (hk : k < 33000) : f_X12_of (nI k) t T = some (nb t (T.1 71 k), T) := by
  unfold f_X12_of
  rw [if_pos (ix hk (by omega)), nI_clamp (by omega)]
  rfl
theorem high_loop {T : mM} {N f : Nat} {t a : Int32} (hN : N ≤ 33000) (hf : f < N) (h28 : T.1 69 28 = nI f) : ∀ (d j fu : Nat), j = f + d → j ≤ N → (∀ k, j ≤ k → k < N → ¬ nb t (T.1 71 k) < a) → d < fu → f_X12_high_5 fu (nI N) t a (nI j - (1 : Int32)) T = some (nI (hiN (fun k => nb t (T.1 71 k)) a f N), T)
  | 0, j, fu + 1, hj, hjN, hh, _ => by
    obtain rfl : j = f := by omega
    unfold f_X12_high_5 f_X12_high_31
    rw [h28, if_pos (pred_lt (by omega)), if_pos (pred_lt (by omega)), hiN_none N hh]
    rfl
  | d + 1, j, fu + 1, hj, hjN, hh, hfu => by
    obtain ⟨j', rfl⟩ : ∃ j', j = j' + 1 := ⟨j - 1, by omega⟩
    have em : nI j' + (-1 : Int32) = nI j' - (1 : Int32) := (Int32.sub_eq_add_neg _ _).symm
    rw [nI_pred]
    unfold f_X12_high_5
    rw [h28, if_neg (nI_nlt (show f ≤ j' by omega) (by omega)), of_eq (by omega), mBind_of]
    by_cases e : nb t (T.1 71 j') < a
    · rw [if_pos e]
      unfold f_X12_high_31
      rw [h28, if_neg (nI_nlt (show f ≤ j' by omega) (by omega)), hiN_len (v := fun k => nb t (T.1 71 k)) (show f ≤ j' by omega) e N (by omega) (fun k h1 h2 => hh k (by omega) h2), show nI N - (1 : Int32) = nI (N - 1) from nI_sub (b := 1) (by omega), nI_sub (by omega)]
    · rw [if_neg e]
      simp only [bnd, em]
      exact high_loop hN hf h28 d j' fu (by omega) (by omega) (fun k h1 h2 => by
        by_cases q : k = j'
        · rw [q]
          exact e
        · exact hh k (by omega) h2) (by omega)
theorem high_eq {T : mM} {N f : Nat} {t a : Int32} (hN : N ≤ 33000) (hf : f < N) (h28 : T.1 69 28 = nI f) : f_X12_high (nI N) t a T = some (nI (hiN (fun k => nb t (T.1 71 k)) a f N), T) := by
  unfold f_X12_high
  simp only [bnd]
  exact high_loop hN hf h28 (N - f) N mFuel (by omega) (by omega) (fun k h1 h2 => absurd h1 (by omega)) (by unfold mFuel; omega)
theorem runt_loop {T : mM} {N : Nat} {t top : Int32} (hN : N ≤ 33000) : ∀ (m j fu : Nat) (y : Int32), j + m = N → m < fu → (y = 0 ∨ y = 1) → ∃ z, f_X12_isRunt_27 fu (nI N) t top y (nI j) T = some (z, T) ∧ (z = 0 ∨ z = 1) ∧ (z = 1 ↔ y = 1 ∧ ∀ k, j ≤ k → k < N → ¬ top ≤ nb t (T.1 71 k))
  | 0, j, fu + 1, y, hm, _, hy => by
    refine ⟨y, ?_, hy, fun e => ⟨e, fun k h1 h2 => absurd h1 (by omega)⟩, fun e => e.1⟩
    unfold f_X12_isRunt_27
    rw [if_pos (nI_le (by omega) (by omega)), if_pos hy]
  | m + 1, j, fu + 1, y, hm, hf, hy => by
    unfold f_X12_isRunt_27
    rw [if_neg (nI_ge (by omega) (by omega))]
    simp only [bnd, nI_1]
    rcases hy with rfl | rfl
    · rw [if_pos rfl]
      obtain ⟨z, k1, k2, k3⟩ := runt_loop (T := T) (t := t) (top := top) hN m (j + 1) fu 0 (by omega) (by omega) (Or.inl rfl)
      refine ⟨z, k1, k2, fun e => absurd (k3.mp e).1 (by decide), fun e => absurd e.1 (by decide)⟩
    · rw [if_neg (by decide), of_eq (by omega), mBind_of]
      by_cases e : top ≤ nb t (T.1 71 j)
      · rw [if_pos e]
        obtain ⟨z, k1, k2, k3⟩ := runt_loop (T := T) (t := t) (top := top) hN m (j + 1) fu 0 (by omega) (by omega) (Or.inl rfl)
        refine ⟨z, k1, k2, fun e => absurd (k3.mp e).1 (by decide), fun q => absurd e (q.2 j (by omega) (by omega))⟩
      · rw [if_neg e]
        obtain ⟨z, k1, k2, k3⟩ := runt_loop (T := T) (t := t) (top := top) hN m (j + 1) fu 1 (by omega) (by omega) (Or.inr rfl)
        refine ⟨z, k1, k2, fun q => ⟨rfl, fun k h1 h2 => ?_⟩, fun q => k3.mpr ⟨rfl, fun k h1 h2 => q.2 k (by omega) h2⟩⟩
        by_cases c : k = j
        · rw [c]
          exact e
        · exact (k3.mp q).2 k (by omega) h2
theorem runt_eq {T : mM} {N f : Nat} {t a top : Int32} (hN : N ≤ 33000) (hf : f < N) (h28 : T.1 69 28 = nI f) : ∃ z, f_X12_isRunt (nI N) t a top T = some (z, T) ∧ (z = 0 ∨ z = 1) ∧
    (z = 1 ↔ 0 < hiN (fun k => nb t (T.1 71 k)) a f N ∧ ∀ k, N - hiN (fun k => nb t (T.1 71 k)) a f N ≤ k → k < N → ¬ top ≤ nb t (T.1 71 k)) := by
  have hH := hiN_le (fun k => nb t (T.1 71 k)) a f N
  unfold f_X12_isRunt
  rw [high_eq hN hf h28, mBind_of]
  generalize hiN (fun k => nb t (T.1 71 k)) a f N = H at hH ⊢
  simp only [bnd]
  rw [nI_sub hH]
  by_cases h0 : H = 0
  · subst h0
    obtain ⟨z, k1, k2, k3⟩ := runt_loop (T := T) (t := t) (top := top) hN 0 (N - 0) mFuel 0 (by omega) (by unfold mFuel; omega) (Or.inl rfl)
    refine ⟨z, ?_, k2, fun e => absurd (k3.mp e).1 (by decide), fun e => absurd e.1 (by omega)⟩
    rw [if_pos (show nI 0 ≤ 0 by decide)]
    exact k1
  · obtain ⟨z, k1, k2, k3⟩ := runt_loop (T := T) (t := t) (top := top) hN H (N - H) mFuel 1 (by omega) (by unfold mFuel; omega) (Or.inr rfl)
    refine ⟨z, ?_, k2, fun e => ⟨by omega, (k3.mp e).2⟩, fun e => k3.mpr ⟨rfl, e.2⟩⟩
    rw [if_neg (nI_nle (by omega) (by omega))]
    exact k1
/-! one stage of both -/
def iSt2 (S T : mM) (p i : Nat) : Prop :=
  (∃ e, e ≤ 7 ∧ S.1 (p + 2 + i) 0 = nI e) ∧ T.1 73 i = S.1 (p + 2 + i) 0 ∧
  (∃ t, 1 ≤ t ∧ t ≤ 20 ∧ S.1 (p + 2 + i) 1 = nI t) ∧ T.1 72 i = S.1 (p + 2 + i) 1 ∧
  (∃ t, t ≤ 200 ∧ S.1 (p + 2 + i) 2 = nI t) ∧ T.1 77 i = S.1 (p + 2 + i) 2 ∧
  (∃ t, t ≤ 3 ∧ S.1 (p + 2 + i) 3 = nI t) ∧ T.1 74 i = S.1 (p + 2 + i) 3 ∧
  T.1 75 i = S.1 (p + 2 + i) 5 ∧ T.1 75 i = S.1 (p + 2 + i) 4 ∧
  (S.1 (p + 2 + i) 0 = 7 → ∃ t, t ≤ 3 ∧ S.1 (p + 2 + i) 4 = nI t) ∧
  (S.1 (p + 2 + i) 0 = 2 ∨ S.1 (p + 2 + i) 0 = 3 → (∃ t, 1 ≤ t ∧ t ≤ 200 ∧ S.1 (p + 2 + i) 7 = nI t) ∧ T.1 76 i = S.1 (p + 2 + i) 7) ∧
  (S.1 (p + 2 + i) 0 = 4 ∨ S.1 (p + 2 + i) 0 = 5 ∨ S.1 (p + 2 + i) 0 = 6 → T.1 76 i = S.1 (p + 2 + i) 6)
def iHi2 (S T : mM) (p i f N : Nat) : Prop :=
  S.1 (p + 2 + i) 8 = nI (hiN (fun k => nb (S.1 (p + 2 + i) 3) (T.1 71 k)) (S.1 (p + 2 + i) 5) f N) ∧
  (0 < hiN (fun k => nb (S.1 (p + 2 + i) 3) (T.1 71 k)) (S.1 (p + 2 + i) 5) f N → (S.1 (p + 2 + i) 9 = 0 ∨ S.1 (p + 2 + i) 9 = 1)) ∧
  (0 < hiN (fun k => nb (S.1 (p + 2 + i) 3) (T.1 71 k)) (S.1 (p + 2 + i) 5) f N →
    (S.1 (p + 2 + i) 9 = 1 ↔ ∃ k, N - hiN (fun k => nb (S.1 (p + 2 + i) 3) (T.1 71 k)) (S.1 (p + 2 + i) 5) f N ≤ k ∧ k < N ∧ S.1 (p + 2 + i) 6 ≤ nb (S.1 (p + 2 + i) 3) (T.1 71 k)))
theorem numberOn_eq (t x : Int32) (S : mM) : f_X11_numberOn t x S = some (nb t x, S) := rfl
set_option maxHeartbeats 1000000 in
theorem happens_ag {S T : mM} {p g N f : Nat} {ahead now : Int32} (hst : iSt2 S T p g) (hg : g < 6) (h29 : T.1 69 29 = nI g) (h28 : T.1 69 28 = nI f) (hf : f < N) (hN : N < 33000) (hi : iHi2 S T p g f N) (ha : ahead = T.1 71 (N - 1)) (hn : now = T.1 71 N) :
    ∃ z, (z = 0 ∨ z = 1) ∧ f_X7_happens (p + 2 + g) ahead now S = some (z, S) ∧ f_X12_happens (nI N) T = some (z, T) := by
  obtain ⟨⟨e, he, s0⟩, r73, -, -, -, -, -, r74, r75, r75', s4, s23, s456⟩ := hst
  obtain ⟨i8, i9, i10⟩ := hi
  subst ha hn
  have hHe := high_eq (T := T) (N := N) (f := f) (t := S.1 (p + 2 + g) 3) (a := S.1 (p + 2 + g) 5) (by omega) hf h28
  obtain ⟨zz, u1, u2, u3⟩ := runt_eq (T := T) (N := N) (f := f) (t := S.1 (p + 2 + g) 3) (a := S.1 (p + 2 + g) 5) (top := S.1 (p + 2 + g) 6) (by omega) hf h28
  have hHh := hiN_hi (v := fun k => nb (S.1 (p + 2 + g) 3) (T.1 71 k)) (a := S.1 (p + 2 + g) 5) (f := f) (N := N)
  have hHl := hiN_le (fun k => nb (S.1 (p + 2 + g) 3) (T.1 71 k)) (S.1 (p + 2 + g) 5) f N
  have g6 : 0 ≤ nI g ∧ (nI g).toNatClampNeg < 6 := ix hg (by omega)
  have g6c : 0 ≤ nI g ∧ g < 6 := ixc hg (by omega)
  have cg : (nI g).toNatClampNeg = g := nI_clamp (by omega)
  have hR : ∃ zr : Int32, ((zr = 0 ∧ (nb (S.1 (p + 2 + g) 3) (T.1 71 (N - 1)) < S.1 (p + 2 + g) 5 ∨ S.1 (p + 2 + g) 5 ≤ nb (S.1 (p + 2 + g) 3) (T.1 71 N))) ∨ (zr = 1 ∧ ¬ nb (S.1 (p + 2 + g) 3) (T.1 71 (N - 1)) < S.1 (p + 2 + g) 5 ∧ ¬ S.1 (p + 2 + g) 5 ≤ nb (S.1 (p + 2 + g) 3) (T.1 71 N))) ∧
      f_X12_happens (nI N) T = f_X12_happens_76 (nI N) (S.1 (p + 2 + g) 3) (S.1 (p + 2 + g) 5) (T.1 76 g) (nb (S.1 (p + 2 + g) 3) (T.1 71 (N - 1))) (nb (S.1 (p + 2 + g) 3) (T.1 71 N)) zr T := by
    unfold f_X12_happens f_X12_happens_75
    rw [h28, if_neg (fun z => by rw [nI_eq (by omega) (by omega)] at z; omega), h29, if_pos g6, cg]
    simp only [bnd, if_pos g6c]
    rw [show nI N - (1 : Int32) = nI (N - 1) from nI_sub (b := 1) (by omega), of_eq (by omega), mBind_of, of_eq (by omega), mBind_of, r74, r75]
    by_cases q1 : nb (S.1 (p + 2 + g) 3) (T.1 71 (N - 1)) < S.1 (p + 2 + g) 5
    · rw [if_pos q1]
      exact ⟨0, Or.inl ⟨rfl, Or.inl q1⟩, rfl⟩
    · rw [if_neg q1]
      by_cases q2 : S.1 (p + 2 + g) 5 ≤ nb (S.1 (p + 2 + g) 3) (T.1 71 N)
      · rw [if_pos q2]
        exact ⟨0, Or.inl ⟨rfl, Or.inr q2⟩, rfl⟩
      · rw [if_neg q2]
        exact ⟨1, Or.inr ⟨rfl, q1, q2⟩, rfl⟩
  obtain ⟨zr, hzr, eR⟩ := hR
  have hC : ∃ zc : Int32, ((zc = 0 ∧ (hiN (fun k => nb (S.1 (p + 2 + g) 3) (T.1 71 k)) (S.1 (p + 2 + g) 5) f N = 0 ∨ S.1 (p + 2 + g) 5 ≤ nb (S.1 (p + 2 + g) 3) (T.1 71 N))) ∨ (zc = 1 ∧ 0 < hiN (fun k => nb (S.1 (p + 2 + g) 3) (T.1 71 k)) (S.1 (p + 2 + g) 5) f N ∧ ¬ S.1 (p + 2 + g) 5 ≤ nb (S.1 (p + 2 + g) 3) (T.1 71 N))) ∧
      f_X7_happens (p + 2 + g) (T.1 71 (N - 1)) (T.1 71 N) S = f_X7_happens_40 (p + 2 + g) (T.1 71 (N - 1)) (T.1 71 N) (nb (S.1 (p + 2 + g) 3) (T.1 71 (N - 1))) (nb (S.1 (p + 2 + g) 3) (T.1 71 N)) zc S := by
    unfold f_X7_happens f_X7_happens_39
    rw [numberOn_eq, mBind_of, numberOn_eq, mBind_of, i8]
    by_cases q1 : hiN (fun k => nb (S.1 (p + 2 + g) 3) (T.1 71 k)) (S.1 (p + 2 + g) 5) f N = 0
    · rw [if_pos (by rw [q1]; decide)]
      exact ⟨0, Or.inl ⟨rfl, Or.inl q1⟩, rfl⟩
    · rw [if_neg (nI_nle (by omega) (by omega))]
      by_cases q2 : S.1 (p + 2 + g) 5 ≤ nb (S.1 (p + 2 + g) 3) (T.1 71 N)
      · rw [if_pos q2]
        exact ⟨0, Or.inl ⟨rfl, Or.inr q2⟩, rfl⟩
      · rw [if_neg q2]
        exact ⟨1, Or.inr ⟨rfl, by omega, q2⟩, rfl⟩
  obtain ⟨zc, hzc, eC⟩ := hC
  rw [eR, eC]
  unfold f_X7_happens_40 f_X12_happens_76
  rw [h29, if_pos g6, cg, r73, s0, i8]
  generalize hP : nb (S.1 (p + 2 + g) 3) (T.1 71 (N - 1)) = P at *
  generalize hV : nb (S.1 (p + 2 + g) 3) (T.1 71 N) = V at *
  generalize hHN : hiN (fun k => nb (S.1 (p + 2 + g) 3) (T.1 71 k)) (S.1 (p + 2 + g) 5) f N = H at *
  have hHh' : 0 < H → ¬ P < S.1 (p + 2 + g) 5 := hHh
  rcases (show e = 0 ∨ e = 1 ∨ e = 2 ∨ e = 3 ∨ e = 4 ∨ e = 5 ∨ e = 6 ∨ e = 7 by omega) with rfl | rfl | rfl | rfl | rfl | rfl | rfl | rfl
  · rw [if_pos (show nI 0 = (0 : Int32) from rfl), if_pos (show nI 0 = (0 : Int32) from rfl)]
    by_cases q1 : S.1 (p + 2 + g) 5 ≤ P
    · rw [if_pos q1, if_pos q1]
      exact ⟨0, Or.inl rfl, rfl, rfl⟩
    · rw [if_neg q1, if_neg q1]
      by_cases q2 : V < S.1 (p + 2 + g) 5
      · rw [if_pos q2, if_pos q2]
        exact ⟨0, Or.inl rfl, rfl, rfl⟩
      · rw [if_neg q2, if_neg q2]
        exact ⟨1, Or.inr rfl, rfl, rfl⟩
  · rw [if_neg (show ¬ nI 1 = (0 : Int32) by decide), if_pos (show nI 1 = (1 : Int32) from rfl), if_neg (show ¬ nI 1 = (0 : Int32) by decide), if_pos (show nI 1 = (1 : Int32) from rfl)]
    rcases hzr with ⟨rfl, q⟩ | ⟨rfl, q1, q2⟩
    · rw [if_pos (Or.inl rfl)]
      refine ⟨0, Or.inl rfl, ?_, rfl⟩
      by_cases q1 : P < S.1 (p + 2 + g) 5
      · rw [if_pos q1]
      · rw [if_neg q1]
        rcases q with q | q
        · exact absurd q q1
        · rw [if_pos q]
    · rw [if_pos (Or.inr rfl), if_neg q1, if_neg q2]
      exact ⟨1, Or.inr rfl, rfl, rfl⟩
  · rw [if_neg (show ¬ nI 2 = (0 : Int32) by decide), if_neg (show ¬ nI 2 = (1 : Int32) by decide), if_pos (show nI 2 = (2 : Int32) from rfl), if_neg (show ¬ nI 2 = (0 : Int32) by decide), if_neg (show ¬ nI 2 = (1 : Int32) by decide), if_pos (show nI 2 = (2 : Int32) from rfl)]
    obtain ⟨⟨sp, sp1, sp2, sp3⟩, r76⟩ := s23 (Or.inl s0)
    rw [r76, sp3]
    rcases hzc with ⟨rfl, q⟩ | ⟨rfl, q1, q2⟩
    · rw [if_pos rfl]
      refine ⟨0, Or.inl rfl, rfl, ?_⟩
      rcases hzr with ⟨rfl, -⟩ | ⟨rfl, w1, w2⟩
      · rw [if_pos rfl]
      · rcases q with q | q
        · rw [if_neg (by decide), hHe, mBind_of, q, if_pos (nI_lt (by omega) (by omega))]
        · exact absurd q w2
    · rcases hzr with ⟨rfl, w1 | w1⟩ | ⟨rfl, w1, w2⟩
      · exact absurd w1 (hHh' q1)
      · exact absurd w1 q2
      · rw [if_neg (show ¬ (1 : Int32) = 0 by decide), if_neg (show ¬ (1 : Int32) = 0 by decide), hHe, mBind_of]
        by_cases c : nI H < nI sp
        · rw [if_pos c, if_pos c]
          exact ⟨0, Or.inl rfl, rfl, rfl⟩
        · rw [if_neg c, if_neg c]
          exact ⟨1, Or.inr rfl, rfl, rfl⟩
  · rw [if_neg (show ¬ nI 3 = (0 : Int32) by decide), if_neg (show ¬ nI 3 = (1 : Int32) by decide), if_neg (show ¬ nI 3 = (2 : Int32) by decide), if_pos (show nI 3 = (3 : Int32) from rfl), if_neg (show ¬ nI 3 = (0 : Int32) by decide), if_neg (show ¬ nI 3 = (1 : Int32) by decide), if_neg (show ¬ nI 3 = (2 : Int32) by decide), if_pos (show nI 3 = (3 : Int32) from rfl)]
    obtain ⟨⟨sp, sp1, sp2, sp3⟩, r76⟩ := s23 (Or.inr s0)
    rw [r76, sp3]
    rcases hzc with ⟨rfl, q⟩ | ⟨rfl, q1, q2⟩
    · rw [if_pos rfl]
      refine ⟨0, Or.inl rfl, rfl, ?_⟩
      rcases hzr with ⟨rfl, -⟩ | ⟨rfl, w1, w2⟩
      · rw [if_pos rfl]
      · rcases q with q | q
        · rw [if_neg (by decide), hHe, mBind_of, q, if_pos (show nI 0 ≤ 0 by decide)]
        · exact absurd q w2
    · rcases hzr with ⟨rfl, w1 | w1⟩ | ⟨rfl, w1, w2⟩
      · exact absurd w1 (hHh' q1)
      · exact absurd w1 q2
      · rw [if_neg (show ¬ (1 : Int32) = 0 by decide), if_neg (show ¬ (1 : Int32) = 0 by decide), hHe, mBind_of, if_neg (nI_nle (by omega) (by omega)), hHe, mBind_of]
        by_cases c : nI sp ≤ nI H
        · rw [if_pos c, if_pos c]
          exact ⟨0, Or.inl rfl, rfl, rfl⟩
        · rw [if_neg c, if_neg c]
          exact ⟨1, Or.inr rfl, rfl, rfl⟩
  · rw [if_neg (show ¬ nI 4 = (0 : Int32) by decide), if_neg (show ¬ nI 4 = (1 : Int32) by decide), if_neg (show ¬ nI 4 = (2 : Int32) by decide), if_neg (show ¬ nI 4 = (3 : Int32) by decide), if_pos (show nI 4 = (4 : Int32) from rfl), if_neg (show ¬ nI 4 = (0 : Int32) by decide), if_neg (show ¬ nI 4 = (1 : Int32) by decide), if_neg (show ¬ nI 4 = (2 : Int32) by decide), if_neg (show ¬ nI 4 = (3 : Int32) by decide), if_pos (show nI 4 = (4 : Int32) from rfl)]
    rw [s456 (Or.inl s0)]
    rcases hzc with ⟨rfl, q⟩ | ⟨rfl, q1, q2⟩
    · rw [if_pos rfl]
      refine ⟨0, Or.inl rfl, rfl, ?_⟩
      rcases hzr with ⟨rfl, -⟩ | ⟨rfl, w1, w2⟩
      · rw [if_pos rfl]
      · rcases q with q | q
        · rw [if_neg (by decide), u1, mBind_of]
          rcases u2 with rfl | rfl
          · rw [if_pos rfl]
          · exact absurd (u3.mp rfl).1 (by omega)
        · exact absurd q w2
    · rcases hzr with ⟨rfl, w1 | w1⟩ | ⟨rfl, w1, w2⟩
      · exact absurd w1 (hHh' q1)
      · exact absurd w1 q2
      · rw [if_neg (show ¬ (1 : Int32) = 0 by decide), if_neg (show ¬ (1 : Int32) = 0 by decide), u1, mBind_of]
        have i11 := i10 q1
        rcases i9 q1 with c | c
        · rw [if_pos c]
          have : zz = 1 := u3.mpr ⟨q1, fun k h1 h2 h3 => by
            have z := i11.mpr ⟨k, h1, h2, h3⟩
            rw [c] at z
            exact absurd z (by decide)⟩
          rw [this, if_neg (by decide)]
          exact ⟨1, Or.inr rfl, rfl, rfl⟩
        · rw [if_neg (by rw [c]; decide)]
          obtain ⟨k, h1, h2, h3⟩ := i11.mp c
          rcases u2 with rfl | rfl
          · rw [if_pos rfl]
            exact ⟨0, Or.inl rfl, rfl, rfl⟩
          · exact absurd h3 ((u3.mp rfl).2 k h1 h2)
  · rw [if_neg (show ¬ nI 5 = (0 : Int32) by decide), if_neg (show ¬ nI 5 = (1 : Int32) by decide), if_neg (show ¬ nI 5 = (2 : Int32) by decide), if_neg (show ¬ nI 5 = (3 : Int32) by decide), if_neg (show ¬ nI 5 = (4 : Int32) by decide), if_pos (show nI 5 = (5 : Int32) from rfl), if_neg (show ¬ nI 5 = (0 : Int32) by decide), if_neg (show ¬ nI 5 = (1 : Int32) by decide), if_neg (show ¬ nI 5 = (2 : Int32) by decide), if_neg (show ¬ nI 5 = (3 : Int32) by decide), if_neg (show ¬ nI 5 = (4 : Int32) by decide), if_pos (show nI 5 = (5 : Int32) from rfl)]
    rw [s456 (Or.inr (Or.inl s0))]
    simp only [isIn_eq, in_eq, mBind_of, b01, l_le]
    by_cases q1 : S.1 (p + 2 + g) 5 ≤ V ∧ V ≤ S.1 (p + 2 + g) 6
    · rw [if_nn q1, if_nn q1]
      by_cases q2 : S.1 (p + 2 + g) 5 ≤ P ∧ P ≤ S.1 (p + 2 + g) 6
      · rw [if_nn q2, if_nn q2]
        exact ⟨0, Or.inl rfl, rfl, rfl⟩
      · rw [if_pos q2, if_pos q2]
        exact ⟨1, Or.inr rfl, rfl, rfl⟩
    · rw [if_pos q1, if_pos q1]
      exact ⟨0, Or.inl rfl, rfl, rfl⟩
  · rw [if_neg (show ¬ nI 6 = (0 : Int32) by decide), if_neg (show ¬ nI 6 = (1 : Int32) by decide), if_neg (show ¬ nI 6 = (2 : Int32) by decide), if_neg (show ¬ nI 6 = (3 : Int32) by decide), if_neg (show ¬ nI 6 = (4 : Int32) by decide), if_neg (show ¬ nI 6 = (5 : Int32) by decide), if_pos (show nI 6 = (6 : Int32) from rfl), if_neg (show ¬ nI 6 = (0 : Int32) by decide), if_neg (show ¬ nI 6 = (1 : Int32) by decide), if_neg (show ¬ nI 6 = (2 : Int32) by decide), if_neg (show ¬ nI 6 = (3 : Int32) by decide), if_neg (show ¬ nI 6 = (4 : Int32) by decide), if_neg (show ¬ nI 6 = (5 : Int32) by decide), if_pos (show nI 6 = (6 : Int32) from rfl)]
    rw [s456 (Or.inr (Or.inr s0))]
    simp only [isIn_eq, in_eq, mBind_of, b01, l_le]
    by_cases q1 : S.1 (p + 2 + g) 5 ≤ P ∧ P ≤ S.1 (p + 2 + g) 6
    · rw [if_nn q1, if_nn q1]
      by_cases q2 : S.1 (p + 2 + g) 5 ≤ V ∧ V ≤ S.1 (p + 2 + g) 6
      · rw [if_nn q2, if_nn q2]
        exact ⟨0, Or.inl rfl, rfl, rfl⟩
      · rw [if_pos q2, if_pos q2]
        exact ⟨1, Or.inr rfl, rfl, rfl⟩
    · rw [if_pos q1, if_pos q1]
      exact ⟨0, Or.inl rfl, rfl, rfl⟩
  · rw [if_neg (show ¬ nI 7 = (0 : Int32) by decide), if_neg (show ¬ nI 7 = (1 : Int32) by decide), if_neg (show ¬ nI 7 = (2 : Int32) by decide), if_neg (show ¬ nI 7 = (3 : Int32) by decide), if_neg (show ¬ nI 7 = (4 : Int32) by decide), if_neg (show ¬ nI 7 = (5 : Int32) by decide), if_neg (show ¬ nI 7 = (6 : Int32) by decide), if_pos (show nI 7 = (7 : Int32) from rfl), if_neg (show ¬ nI 7 = (0 : Int32) by decide), if_neg (show ¬ nI 7 = (1 : Int32) by decide), if_neg (show ¬ nI 7 = (2 : Int32) by decide), if_neg (show ¬ nI 7 = (3 : Int32) by decide), if_neg (show ¬ nI 7 = (4 : Int32) by decide), if_neg (show ¬ nI 7 = (5 : Int32) by decide), if_neg (show ¬ nI 7 = (6 : Int32) by decide)]
    rw [numberOn_eq, mBind_of, numberOn_eq, mBind_of, of_eq (by omega), mBind_of, show nI N - (1 : Int32) = nI (N - 1) from nI_sub (b := 1) (by omega), of_eq (by omega), mBind_of, ← r75', r75]
    by_cases q1 : V = nb (S.1 (p + 2 + g) 5) (T.1 71 N)
    · rw [if_pos q1, if_pos q1]
      by_cases q2 : P = nb (S.1 (p + 2 + g) 5) (T.1 71 (N - 1))
      · rw [if_pos q2, if_pos q2]
        exact ⟨0, Or.inl rfl, rfl, rfl⟩
      · rw [if_neg q2, if_neg q2]
        exact ⟨1, Or.inr rfl, rfl, rfl⟩
    · rw [if_neg q1, if_neg q1]
      exact ⟨0, Or.inl rfl, rfl, rfl⟩
