/-! PURE: reckon agrees -/
def cR (r n : Nat) (G : Nat → Int32) (W : Nat → Int64) (S S1 : mM) : Prop :=
  (∀ b, b ≠ 54 + 3 * r → b ≠ 56 + 3 * r → S1.1 b = S.1 b) ∧ (∀ b, b ≠ 55 + 3 * r → S1.2.1 b = S.2.1 b) ∧ S1.2.2 = S.2.2 ∧ S1.1 (54 + 3 * r) 2 = nI n ∧ ∀ j, j < n → S1.2.1 (55 + 3 * r) j = W j ∧ S1.1 (56 + 3 * r) j = G j
def rR (r n : Nat) (G : Nat → Int32) (W : Nat → Int64) (S S1 : mM) : Prop :=
  (∀ b, b ≠ 91 → b ≠ 93 → b ≠ 95 → S1.1 b = S.1 b) ∧ (∀ b, b ≠ 92 → b ≠ 94 → S1.2.1 b = S.2.1 b) ∧ S1.2.2 = S.2.2 ∧ (∀ j, S1.1 91 j = if j = r then nI n else S.1 91 j) ∧
  (∀ j, S1.1 93 j = if 201 * r ≤ j ∧ j < 201 * r + n then G (j - 201 * r) else S.1 93 j) ∧ (∀ j, S1.2.1 92 j = if 201 * r ≤ j ∧ j < 201 * r + n then W (j - 201 * r) else S.2.1 92 j)
theorem reck_inv {c r n : Nat} {G : Nat → Int32} {W : Nat → Int64} {S S1 S2 : mM} (h : Inv c S) (hr : r < 4) (hn : n ≤ 201) (hn0 : n ≠ 0) (hG : ∀ i, i < n → G i = 0 ∨ (G i = 1 ∧ W i = 0)) (h1 : cR r n G W S S1) (h2 : rR r n G W S1 S2) : Inv (c + 1) S2 := by
  obtain ⟨a1, a2, a3, a4, a5⟩ := h1
  obtain ⟨b1, b2, b3, b4, b5, b6⟩ := h2
  have rA : ∀ b, b ≠ 54 + 3 * r → b ≠ 56 + 3 * r → b ≠ 91 → b ≠ 93 → b ≠ 95 → S2.1 b = S.1 b := fun b q1 q2 q3 q4 q5 => by rw [b1 b q3 q4 q5, a1 b q1 q2]
  have r2 : S2.2.2 = S.2.2 := by rw [b3, a3]
  have h69 : S2.1 69 = S.1 69 := rA 69 (by omega) (by omega) (by omega) (by omega) (by omega)
  refine ⟨h.1.frame (fun a ha => ?_) (by rw [h69]), ?_, (h.2.2.1.mono (by omega)).frame (fun a ha => ?_) (fun j _ => by rw [h69]) r2, h.2.2.2.1.frame (fun a ha => ?_) (by rw [h69]) ?_, h.2.2.2.2.1.frame (fun a ha => ?_), ?_, ?_, h.2.2.2.2.2.2.2.frame (fun a ha => ?_) (by rw [h69]) (by rw [h69])⟩
  · unfold rwTp at ha
    exact rA a (by omega) (by omega) (by omega) (by omega) (by omega)
  · rw [rA 6 (by omega) (by omega) (by omega) (by omega) (by omega), h69]
    exact h.2.1
  · unfold rwEn at ha
    exact rA a (by omega) (by omega) (by omega) (by omega) (by omega)
  · unfold rwSg at ha
    exact rA a (by omega) (by omega) (by omega) (by omega) (by omega)
  · rw [rA 7 (by omega) (by omega) (by omega) (by omega) (by omega)]
  · unfold rwSh at ha
    exact rA a (by omega) (by omega) (by omega) (by omega) (by omega)
  · intro r' hr'
    by_cases e : r' = r
    · subst e
      refine ⟨n, hn, ?_, ?_, fun i hi => ?_⟩
      · rw [b1 _ (by omega) (by omega) (by omega)]
        exact a4
      · rw [b4, if_pos rfl, if_neg hn0]
      · have f1 : S2.2.1 (55 + 3 * r') i = W i := by rw [b2 _ (by omega) (by omega)]; exact (a5 i hi).1
        have f2 : S2.2.1 92 (201 * r' + i) = W i := by rw [b6, if_pos (by omega), Nat.add_sub_cancel_left]
        have f3 : S2.1 (56 + 3 * r') i = G i := by rw [b1 _ (by omega) (by omega) (by omega)]; exact (a5 i hi).2
        have f4 : S2.1 93 (201 * r' + i) = G i := by rw [b5, if_pos (by omega), Nat.add_sub_cancel_left]
        rw [f1, f2, f3, f4]
        exact ⟨rfl, rfl, hG i hi⟩
    · obtain ⟨n', c1, c2, c3, c4⟩ := h.2.2.2.2.2.1 r' hr'
      refine ⟨n', c1, ?_, ?_, fun i hi => ?_⟩
      · rw [rA _ (by omega) (by omega) (by omega) (by omega) (by omega)]
        exact c2
      · rw [b4, if_neg e, a1 _ (by omega) (by omega)]
        exact c3
      · have f1 : S2.2.1 (55 + 3 * r') = S.2.1 (55 + 3 * r') := by rw [b2 _ (by omega) (by omega), a2 _ (by omega)]
        have f2 : S2.2.1 92 (201 * r' + i) = S.2.1 92 (201 * r' + i) := by rw [b6, if_neg (by omega), a2 _ (by omega)]
        have f3 : S2.1 (56 + 3 * r') = S.1 (56 + 3 * r') := rA _ (by omega) (by omega) (by omega) (by omega) (by omega)
        have f4 : S2.1 93 (201 * r' + i) = S.1 93 (201 * r' + i) := by rw [b5, if_neg (by omega), a1 _ (by omega) (by omega)]
        rw [f1, f2, f3, f4]
        exact c4 i hi
  · rw [rA 0 (by omega) (by omega) (by omega) (by omega) (by omega), h69]
    exact h.2.2.2.2.2.2.1
  · unfold rwWr at ha
    exact rA a (by omega) (by omega) (by omega) (by omega) (by omega)
theorem ref_out {r n : Nat} {G : Nat → Int32} {W : Nat → Int64} {T T' : mM} {z : Option (Int32 × mM)} (hr : r < 4) (hn : n ≤ 201) (hG : ∀ i, i < n → G i = 0 ∨ (G i = 1 ∧ W i = 0)) (h : Wd 94 95 0 0 n G W T T') (hz : z = f_X12_reckon_307 mFuel (nI r) (nI n) 0 T') :
    ∃ T2, z = some (nI n, T2) ∧ rR r n G W T T2 := by
  obtain ⟨h1, h2, h3, h4, h5⟩ := h
  obtain ⟨T2, k1, m1, m2, m3, m4, m5⟩ := ref_copy (G := G) (W := W) hr hn n 0 mFuel T' (by omega) (by unfold mFuel; omega) (fun j hj => by
    refine ⟨?_, ?_, ?_⟩
    · rw [h4, if_pos (by omega), Nat.sub_zero]
    · rw [h5, if_pos (by omega), Nat.sub_zero]
    · rcases hG j hj with e | e
      · exact Or.inl e
      · exact Or.inr e.1)
  refine ⟨setI T2 91 r (nI n), by rw [hz]; exact k1, fun b q1 q2 q3 => ?_, fun b q1 q2 => ?_, ?_, fun j => ?_, fun j => ?_, fun j => ?_⟩
  · rw [setI_row _ _ _ _ q1, m1 b q2, h1 b q3]
  · rw [setI_2, m2 b q1, h2 b q2]
  · rw [setI_2, m3, h3]
  · rw [setI_1, m1 91 (by omega), h1 91 (by omega)]
    simp only [true_and]
  · rw [setI_row _ _ _ _ (by omega), m4, h1 93 (by omega)]
    simp only [Nat.add_zero]
  · rw [setI_2, m5, h2 92 (by omega)]
    simp only [Nat.add_zero]
theorem cR_of {r n : Nat} {G : Nat → Int32} {W : Nat → Int64} {S S' : mM} (h : Wd (55 + 3 * r) (56 + 3 * r) 0 0 n G W S S') : cR r n G W S (setI S' (54 + 3 * r) 2 (nI n)) := by
  obtain ⟨h1, h2, h3, h4, h5⟩ := h
  refine ⟨fun b q1 q2 => by rw [setI_row _ _ _ _ q1, h1 b q2], fun b q1 => by rw [setI_2, h2 b q1], by rw [setI_2, h3], setI_same _ _ _ _, fun j hj => ⟨?_, ?_⟩⟩
  · rw [setI_2, h5, if_pos (by omega), Nat.sub_zero]
  · rw [setI_row _ _ _ _ (by omega), h4, if_pos (by omega), Nat.sub_zero]
theorem cR_of' {r n : Nat} {G : Nat → Int32} {W : Nat → Int64} {S S' : mM} (h : Wd (55 + 3 * r) (56 + 3 * r) 0 0 n G W (setI S (54 + 3 * r) 2 (nI n)) S') : cR r n G W S S' := by
  obtain ⟨h1, h2, h3, h4, h5⟩ := h
  refine ⟨fun b q1 q2 => by rw [h1 b q2, setI_row _ _ _ _ q1], fun b q1 => by rw [h2 b q1, setI_2], by rw [h3, setI_2], by rw [h1 _ (by omega), setI_same], fun j hj => ⟨?_, ?_⟩⟩
  · rw [h5, if_pos (by omega), Nat.sub_zero]
  · rw [h4, if_pos (by omega), Nat.sub_zero]
/-- the data of a filled row x in S -/
def rD (S : mM) (x n : Nat) : Prop := x < 4 ∧ n ≤ 201 ∧ n ≠ 0 ∧ S.1 (54 + 3 * x) 2 = nI n ∧ S.1 91 x = nI n ∧
  ∀ i, i < n → S.2.1 (55 + 3 * x) i = S.2.1 92 (201 * x + i) ∧ S.1 (56 + 3 * x) i = S.1 93 (201 * x + i) ∧ (S.1 93 (201 * x + i) = 0 ∨ (S.1 93 (201 * x + i) = 1 ∧ S.2.1 92 (201 * x + i) = 0))
theorem filled_cases {S : mM} (h : iRw S) (p : Int32) : (f_X11_isFilled p S = some (0, S) ∧ f_X12_isRow p S = some (0, S)) ∨ ∃ x n, p = nI x ∧ rD S x n ∧ f_X11_isFilled p S = some (1, S) ∧ f_X12_isRow p S = some (1, S) := by
  rcases row_cases h p with ⟨hp, e1, e2⟩ | ⟨r, n, hr, rfl, hp, hn, h2, h3, h4, e1, e2⟩
  · exact Or.inl ⟨e1, e2⟩
  · by_cases h0 : n = 0
    · rw [if_pos h0] at e1 e2
      exact Or.inl ⟨e1, e2⟩
    · rw [if_neg h0] at e1 e2 h3
      exact Or.inr ⟨r, n, rfl, ⟨hr, hn, h0, h2, h3, h4⟩, e1, e2⟩
/-- isFilled and isRow look at few cells -/
theorem isRow_any {x n : Nat} {T : mM} (hx : x < 4) (h : ∃ n, n < 2 ^ 31 ∧ T.1 91 x = nI n) : f_X12_isRow (nI x) T = some (1, T) := by
  obtain ⟨n, h1, h2⟩ := h
  unfold f_X12_isRow
  rw [in_eq, mBind_of, if_neg (fun z => b01.mp z (by rw [l0, l3]; exact (upto (n := 3) (by omega)).mpr ⟨x, by omega, rfl⟩)), if_pos (ix (show x < 4 by omega) (by omega)), nI_clamp (by omega), h2, if_neg (m1_ne h1)]
theorem l7 (p : Int32) : p.toInt64 ≤ (7 : Int64) ↔ p ≤ 7 := by rw [show (7 : Int64) = (7 : Int32).toInt64 by decide, l_le]
theorem l64 (p : Int32) : p.toInt64 ≤ (64 : Int64) ↔ p ≤ 64 := by rw [show (64 : Int64) = (64 : Int32).toInt64 by decide, l_le]
theorem lm1000 (p : Int32) : (-1000 : Int64) ≤ p.toInt64 ↔ -1000 ≤ p := by rw [show (-1000 : Int64) = (-1000 : Int32).toInt64 by decide, l_le]
theorem in07 {p : Int32} : (0 ≤ p ∧ p ≤ 7) ↔ (p = 0 ∨ p = 1 ∨ p = 2 ∨ p = 3 ∨ p = 4 ∨ p = 5 ∨ p = 6 ∨ p = 7) := by
  constructor
  · intro h
    obtain ⟨k, hk, rfl⟩ := (upto (n := 7) (by omega)).mp h
    rcases (show k = 0 ∨ k = 1 ∨ k = 2 ∨ k = 3 ∨ k = 4 ∨ k = 5 ∨ k = 6 ∨ k = 7 by omega) with rfl | rfl | rfl | rfl | rfl | rfl | rfl | rfl
    · exact Or.inl rfl
    · exact Or.inr (Or.inl rfl)
    · exact Or.inr (Or.inr (Or.inl rfl))
    · exact Or.inr (Or.inr (Or.inr (Or.inl rfl)))
    · exact Or.inr (Or.inr (Or.inr (Or.inr (Or.inl rfl))))
    · exact Or.inr (Or.inr (Or.inr (Or.inr (Or.inr (Or.inl rfl)))))
    · exact Or.inr (Or.inr (Or.inr (Or.inr (Or.inr (Or.inr (Or.inl rfl))))))
    · exact Or.inr (Or.inr (Or.inr (Or.inr (Or.inr (Or.inr (Or.inr rfl))))))
  · rintro (rfl | rfl | rfl | rfl | rfl | rfl | rfl | rfl) <;> decide
/-- one row reckoned of one: the class, then the reference -/
theorem reck_one {c r x n : Nat} {w K y : Int32} {S : mM} {G : Nat → Int32} {W : Nat → Int64} (h : Inv c S) (hr : r < 4) (hx : rD S x n) (hw : (3 : Int32) ≤ w)
    (hG : ∀ i, i < n → G i = 0 ∨ (G i = 1 ∧ W i = 0))
    (hc : ∃ S1, f_X3_reckonOne (54 + 3 * r) w (54 + 3 * x) K S = some ((), S1) ∧ cR r n G W S S1)
    (hs : ∀ i, i < n → ∀ T : mM, T.1 93 = S.1 93 → T.2.1 92 = S.2.1 92 → (∀ j, j < i → T.1 95 j = G j ∧ T.2.1 94 j = W j) → f_X12_single w (nI x) K (nI i) T = some ((), wr T 94 95 i (G i) (W i))) :
    ∃ S1 S2, f_X11_reckon_81 (nI r) w (nI x) y K S = some (nI n, S1) ∧ f_X12_reckon_135 mFuel (nI r) w (nI x) y K (nI n) 0 S1 = some (nI n, S2) ∧ Inv (c + 1) S2 ∧ S1.1 91 = S.1 91 := by
  obtain ⟨x1, x2, x3, x4, x5, x6⟩ := hx
  obtain ⟨S1, k1, k2⟩ := hc
  obtain ⟨T', m1, m2⟩ := ref_one (r := r) (x := x) (y := y) x2 hw hs n 0 mFuel S1 (by omega) (by unfold mFuel; omega) (k2.1 93 (by omega) (by omega)) (k2.2.1 92 (by omega)) (fun j hj => absurd hj (by omega))
  obtain ⟨S2, u1, u2⟩ := ref_out hr x2 hG m2 m1
  refine ⟨S1, S2, ?_, u1, reck_inv h hr x2 x3 hG k2 u2, k2.1 91 (by omega) (by omega)⟩
  have e54 : 53 + 1 + 3 * r = 54 + 3 * r := by omega
  have e54' : 53 + 1 + 3 * x = 54 + 3 * x := by omega
  have nlt : ¬ w < 3 := Int32.not_lt.mpr hw
  unfold f_X11_reckon_81
  rw [if_neg nlt, if_pos (ix (show r < 4 by omega) (by omega)), nI_clamp (show r < 2 ^ 31 by omega)]
  simp only [bnd, e54]
  rw [if_pos (ix (show x < 4 by omega) (by omega)), nI_clamp (show x < 2 ^ 31 by omega), e54', k1, mBind_of, if_pos (ixc (show r < 4 by omega) (by omega)), k2.2.2.2.1]
theorem ag_reckon (c : Nat) (p w q y K : Int32) : Ag c (f_X11_reckon p w q y K) (f_X12_reckon p w q y K) := fun _ S h => by
  by_cases hp : 0 ≤ p ∧ p ≤ 3
  case neg =>
    refine ⟨-1, S, S, ?_, ?_, h.mono (by omega)⟩
    · unfold f_X11_reckon
      rw [isIn_eq, mBind_of, if_pos (b01.mpr hp)]
    · unfold f_X12_reckon
      rw [in_eq, mBind_of, if_pos (b01.mpr (by rw [l0, l3]; exact hp))]
  by_cases hw : 0 ≤ w ∧ w ≤ 7
  case neg =>
    refine ⟨-1, S, S, ?_, ?_, h.mono (by omega)⟩
    · unfold f_X11_reckon
      rw [isIn_eq, mBind_of, if_neg (fun z => b01.mp z hp), isIn_eq, mBind_of, if_pos (b01.mpr hw)]
    · unfold f_X12_reckon
      rw [in_eq, mBind_of, if_neg (fun z => b01.mp z (by rw [l0, l3]; exact hp)), in_eq, mBind_of, if_pos (b01.mpr (by rw [l0, l7]; exact hw))]
  rcases filled_cases h.2.2.2.2.2.1 q with ⟨q1, q2⟩ | ⟨x, n, rfl, hx, q1, q2⟩
  · refine ⟨-1, S, S, ?_, ?_, h.mono (by omega)⟩
    · unfold f_X11_reckon
      rw [isIn_eq, mBind_of, if_neg (fun z => b01.mp z hp), isIn_eq, mBind_of, if_neg (fun z => b01.mp z hw), q1, mBind_of, if_pos rfl]
    · unfold f_X12_reckon
      rw [in_eq, mBind_of, if_neg (fun z => b01.mp z (by rw [l0, l3]; exact hp)), in_eq, mBind_of, if_neg (fun z => b01.mp z (by rw [l0, l7]; exact hw)), q2, mBind_of, if_pos rfl]
  have hp' := hp
  obtain ⟨r, hr, rfl⟩ := (upto (n := 3) (by omega)).mp hp
  have hxx := hx
  obtain ⟨x1, x2, x3, x4, x5, x6⟩ := hx
  have x4' : 0 ≤ nI x ∧ (nI x).toNatClampNeg < 4 := ix (by omega) (by omega)
  have cx : (nI x).toNatClampNeg = x := nI_clamp (by omega)
  -- the heads
  have hC : ∀ R, (if w = (3 : Int32) then f_X11_reckon_39 (nI r) w (nI x) y K S else if w = (4 : Int32) then f_X11_reckon_39 (nI r) w (nI x) y K S else f_X11_reckon_44 (nI r) w (nI x) y K (0 : Int32) S) = R → f_X11_reckon (nI r) w (nI x) y K S = R := fun R e => by
    unfold f_X11_reckon
    rw [isIn_eq, mBind_of, if_neg (fun z => b01.mp z hp'), isIn_eq, mBind_of, if_neg (fun z => b01.mp z hw), q1, mBind_of, if_neg (by decide)]
    exact e
  have hR : ∀ (T : mM) R, T.1 91 x = nI n → (if (3 : Int32) ≤ w then f_X12_reckon_46 (nI r) w (nI x) y K T else mBind (f_X12_isRow y T) fun r7 S8 => if r7 = 0 then some ((-1 : Int32), S8) else f_X12_reckon_46 (nI r) w (nI x) y K S8) = R → f_X12_reckon (nI r) w (nI x) y K T = R := fun T R e0 e => by
    unfold f_X12_reckon
    rw [in_eq, mBind_of, if_neg (fun z => b01.mp z (by rw [l0, l3]; exact hp')), in_eq, mBind_of, if_neg (fun z => b01.mp z (by rw [l0, l7]; exact hw)), isRow_any (n := n) x1 ⟨n, by omega, e0⟩, mBind_of, if_neg (by decide)]
    exact e
  -- counts: sums and steps
  have cnt : (w = 3 ∨ w = 4) → (∀ k : Nat, 1 ≤ k → k ≤ 64 → K = nI k → ∃ S1 S2, f_X11_reckon_81 (nI r) w (nI x) y K S = some (nI n, S1) ∧ f_X12_reckon_135 mFuel (nI r) w (nI x) y K (nI n) 0 S1 = some (nI n, S2) ∧ Inv (c + 1) S2 ∧ S1.1 91 = S.1 91) →
      ∃ rr S1 S2, f_X11_reckon (nI r) w (nI x) y K S = some (rr, S1) ∧ f_X12_reckon (nI r) w (nI x) y K S1 = some (rr, S2) ∧ Inv (c + 1) S2 := fun hw34 hk => by
    have h3w : (3 : Int32) ≤ w := by rcases hw34 with rfl | rfl <;> decide
    have c44 : ∀ R, f_X11_reckon_44 (nI r) w (nI x) y K 1 S = R → f_X11_reckon (nI r) w (nI x) y K S = R := fun R e => hC R (by
      unfold f_X11_reckon_39
      rcases hw34 with rfl | rfl
      · rw [if_pos rfl]
        exact e
      · rw [if_neg (by decide), if_pos rfl]
        exact e)
    have c85 : ∀ (T : mM) R, T.1 91 x = nI n → f_X12_reckon_85 (nI r) w (nI x) y K 64 1 K.toInt64 T = R → f_X12_reckon (nI r) w (nI x) y K T = R := fun T R e0 e => hR T R e0 (by
      rw [if_pos h3w]
      unfold f_X12_reckon_46 f_X12_reckon_59 f_X12_reckon_66 f_X12_reckon_76
      rcases hw34 with rfl | rfl
      · rw [if_pos rfl, if_pos rfl]
        exact e
      · rw [if_neg (by decide), if_pos rfl, if_neg (by decide), if_pos rfl]
        exact e)
    by_cases hK : 1 ≤ K ∧ K ≤ 64
    · obtain ⟨k, k1, k2, rfl⟩ : ∃ k : Nat, 1 ≤ k ∧ k ≤ 64 ∧ K = nI k := by
        obtain ⟨k, k2, rfl⟩ := (upto (p := K) (n := 64) (by omega)).mp ⟨Int32.le_trans (by decide) hK.1, hK.2⟩
        refine ⟨k, ?_, k2, rfl⟩
        have := (nI_leI (a := 1) (b := k) (by omega) (by omega)).mp hK.1
        omega
      obtain ⟨S1, S2, m1, m2, m3, m4⟩ := hk k k1 k2 rfl
      refine ⟨nI n, S1, S2, c44 _ ?_, c85 _ _ (by rw [m4]; exact x5) ?_, m3⟩
      · unfold f_X11_reckon_44
        rw [if_neg (by decide), isIn_eq, mBind_of, if_neg (fun z => b01.mp z hK)]
        exact m1
      · unfold f_X12_reckon_85
        rw [in_eq, mBind_of, if_neg (fun z => b01.mp z (by rw [l1', l64]; exact hK)), if_pos h3w, if_pos x4', cx, m4, x5]
        exact m2
    · refine ⟨-1, S, S, c44 _ ?_, c85 _ _ x5 ?_, h.mono (by omega)⟩
      · unfold f_X11_reckon_44
        rw [if_neg (by decide), isIn_eq, mBind_of, if_pos (b01.mpr hK)]
      · unfold f_X12_reckon_85
        rw [in_eq, mBind_of, if_pos (b01.mpr (by rw [l1', l64]; exact hK))]
  have big : (w = 5 ∨ w = 6 ∨ w = 7) → (∃ S1 S2, f_X11_reckon_81 (nI r) w (nI x) y K S = some (nI n, S1) ∧ f_X12_reckon_135 mFuel (nI r) w (nI x) y K (nI n) 0 S1 = some (nI n, S2) ∧ Inv (c + 1) S2 ∧ S1.1 91 = S.1 91) →
      ∃ rr S1 S2, f_X11_reckon (nI r) w (nI x) y K S = some (rr, S1) ∧ f_X12_reckon (nI r) w (nI x) y K S1 = some (rr, S2) ∧ Inv (c + 1) S2 := fun hwb hk => by
    have h3w : (3 : Int32) ≤ w := by rcases hwb with rfl | rfl | rfl <;> decide
    have n3 : ¬ w = 3 := by rcases hwb with rfl | rfl | rfl <;> decide
    have n4 : ¬ w = 4 := by rcases hwb with rfl | rfl | rfl <;> decide
    have c44 : ∀ R, f_X11_reckon_44 (nI r) w (nI x) y K 0 S = R → f_X11_reckon (nI r) w (nI x) y K S = R := fun R e => hC R (by
      rw [if_neg n3, if_neg n4]
      exact e)
    have c85 : ∀ (T : mM) R, T.1 91 x = nI n → f_X12_reckon_85 (nI r) w (nI x) y K 1000 (-1000) K.toInt64 T = R → f_X12_reckon (nI r) w (nI x) y K T = R := fun T R e0 e => hR T R e0 (by
      rw [if_pos h3w]
      unfold f_X12_reckon_46 f_X12_reckon_66
      rw [if_neg n3, if_neg n4, if_neg n3, if_neg n4]
      exact e)
    by_cases hK : -1000 ≤ K ∧ K ≤ 1000
    · obtain ⟨S1, S2, m1, m2, m3, m4⟩ := hk
      refine ⟨nI n, S1, S2, c44 _ ?_, c85 _ _ (by rw [m4]; exact x5) ?_, m3⟩
      · unfold f_X11_reckon_44
        rw [if_pos rfl, isIn_eq, mBind_of, if_neg (fun z => b01.mp z hK)]
        exact m1
      · unfold f_X12_reckon_85
        rw [in_eq, mBind_of, if_neg (fun z => b01.mp z (by rw [lm1000, l1000]; exact hK)), if_pos h3w, if_pos x4', cx, m4, x5]
        exact m2
    · refine ⟨-1, S, S, c44 _ ?_, c85 _ _ x5 ?_, h.mono (by omega)⟩
      · unfold f_X11_reckon_44
        rw [if_pos rfl, isIn_eq, mBind_of, if_pos (b01.mpr hK)]
      · unfold f_X12_reckon_85
        rw [in_eq, mBind_of, if_pos (b01.mpr (by rw [lm1000, l1000]; exact hK))]
  have hdat : ∀ j, j < n → (setI S (54 + 3 * r) 2 (nI n)).1 (56 + 3 * x) j = (fun j => S.1 93 (201 * x + j)) j ∧ (setI S (54 + 3 * r) 2 (nI n)).2.1 (55 + 3 * x) j = (fun j => S.2.1 92 (201 * x + j)) j := fun j hj => by
    rw [setI_row _ _ _ _ (by omega), setI_2]
    exact ⟨(x6 j hj).2.1, (x6 j hj).1⟩
  have hlen : (setI S (54 + 3 * r) 2 (nI n)).1 (54 + 3 * x) 2 = nI n := by
    rw [setI_1]
    by_cases e : 54 + 3 * x = 54 + 3 * r ∧ 2 = 2
    · rw [if_pos e]
    · rw [if_neg e]
      exact x4
  have h01 : ∀ j, j < n → S.1 93 (201 * x + j) = 0 ∨ S.1 93 (201 * x + j) = 1 := fun j hj => by
    rcases (x6 j hj).2.2 with e | e
    · exact Or.inl e
    · exact Or.inr e.1
  -- the class's one-row loop out of its steps
  have cls : ¬ w = 6 → ∀ (G : Nat → Int32) (W : Nat → Int64), (∀ i, i < n → ∀ T : mM, T.1 (54 + 3 * x) 2 = nI n → (∀ j, j ≤ i → T.1 (56 + 3 * x) j = (fun j => S.1 93 (201 * x + j)) j ∧ T.2.1 (55 + 3 * x) j = (fun j => S.2.1 92 (201 * x + j)) j) →
      f_X3_leavesGap (54 + 3 * x) w (nI i) K T = some (G i, T) ∧ (G i = 0 → f_X3_reckoned (54 + 3 * x) w (nI i) K T = some (W i, T)) ∧ (G i = 0 ∨ (G i = 1 ∧ W i = 0))) →
      ∃ S1, f_X3_reckonOne (54 + 3 * r) w (54 + 3 * x) K S = some ((), S1) ∧ cR r n G W S S1 := fun n6 G W hst => by
    obtain ⟨S', k1, k2⟩ := one_loop (r := r) x2 hst n mFuel (setI S (54 + 3 * r) 2 (nI n)) (Nat.le_refl n) (by unfold mFuel; omega) hlen (fun j hj => hdat j hj)
    refine ⟨S', ?_, cR_of' k2⟩
    unfold f_X3_reckonOne
    rw [if_neg n6, x4]
    simp only [bnd]
    rw [setI_same]
    exact k1
  have low : (w = 0 ∨ w = 1 ∨ w = 2) → ∃ rr S1 S2, f_X11_reckon (nI r) w (nI x) y K S = some (rr, S1) ∧ f_X12_reckon (nI r) w (nI x) y K S1 = some (rr, S2) ∧ Inv (c + 1) S2 := fun hw' => by
    have lt3 : w < 3 := by rcases hw' with rfl | rfl | rfl <;> decide
    have n3w : ¬ (3 : Int32) ≤ w := by rcases hw' with rfl | rfl | rfl <;> decide
    have n3 : ¬ w = 3 := by rcases hw' with rfl | rfl | rfl <;> decide
    have n4 : ¬ w = 4 := by rcases hw' with rfl | rfl | rfl <;> decide
    clear hw'
    have c44 : ∀ R, f_X11_reckon_44 (nI r) w (nI x) y K 0 S = R → f_X11_reckon (nI r) w (nI x) y K S = R := fun R e => hC R (by
      rw [if_neg n3, if_neg n4]
      exact e)
    have c85 : ∀ (T : mM) R, f_X12_reckon_85 (nI r) w (nI x) y K 1000 (-1000) K.toInt64 T = R → f_X12_reckon_46 (nI r) w (nI x) y K T = R := fun T R e => by
      unfold f_X12_reckon_46 f_X12_reckon_66
      rw [if_neg n3, if_neg n4, if_neg n3, if_neg n4]
      exact e
    rcases filled_cases h.2.2.2.2.2.1 y with ⟨z1, z2⟩ | ⟨y, n', rfl, hy, z1, z2⟩
    · refine ⟨-1, S, S, c44 _ ?_, hR S _ x5 ?_, h.mono (by omega)⟩
      · unfold f_X11_reckon_44 f_X11_reckon_81
        rw [if_pos rfl, isIn_eq, mBind_of, if_pos lt3, z1, mBind_of, if_pos rfl, ite_self]
      · rw [if_neg n3w, z2, mBind_of, if_pos rfl]
    · by_cases hK : -1000 ≤ K ∧ K ≤ 1000
      · obtain ⟨y1, y2, y3, y4, y5, y6⟩ := hy
        have y4' : 0 ≤ nI y ∧ (nI y).toNatClampNeg < 4 := ix (by omega) (by omega)
        have cy : (nI y).toNatClampNeg = y := nI_clamp (by omega)
        have r4' : 0 ≤ nI r ∧ (nI r).toNatClampNeg < 4 := ix (by omega) (by omega)
        have cr : (nI r).toNatClampNeg = r := nI_clamp (by omega)
        obtain ⟨M, hM, hMx, hMy, eM⟩ : ∃ M, M = min n n' ∧ M ≤ n ∧ M ≤ n' ∧ M ≠ 0 := ⟨min n n', rfl, Nat.min_le_left _ _, Nat.min_le_right _ _, by omega⟩
        have hMn : M ≤ 201 := by omega
        have G2 : ∀ j, j < M → (fun j => g2 (S.1 93 (201 * x + j)) (S.1 93 (201 * y + j))) j = g2 (S.1 (56 + 3 * x) j) (S.1 (56 + 3 * y) j) ∧ (fun j => if g2 (S.1 93 (201 * x + j)) (S.1 93 (201 * y + j)) = 0 then jn w (S.2.1 92 (201 * x + j)) (S.2.1 92 (201 * y + j)) else 0) j = if (fun j => g2 (S.1 93 (201 * x + j)) (S.1 93 (201 * y + j))) j = 0 then jn w (S.2.1 (55 + 3 * x) j) (S.2.1 (55 + 3 * y) j) else 0 := fun j hj => by
          rw [(x6 j (by omega)).1, (x6 j (by omega)).2.1, (y6 j (by omega)).1, (y6 j (by omega)).2.1]
          exact ⟨rfl, rfl⟩
        obtain ⟨S', k1, k2⟩ := two_loop (r := r) (x := x) (y := y) (w := w) hMn M 0 mFuel S (by omega) (by unfold mFuel; omega) (fun j _ hj => G2 j hj)
        have k3 := cR_of k2
        obtain ⟨T', m1, m2⟩ := ref_two (r := r) (x := x) (y := y) (w := w) (K := K) (A := S.1 93) (B := S.2.1 92) (G := fun j => g2 (S.1 93 (201 * x + j)) (S.1 93 (201 * y + j))) (W := fun j => if g2 (S.1 93 (201 * x + j)) (S.1 93 (201 * y + j)) = 0 then jn w (S.2.1 92 (201 * x + j)) (S.2.1 92 (201 * y + j)) else 0) hMn x1 y1 n3w (fun j hj => ⟨rfl, rfl⟩) M 0 mFuel (setI S' (54 + 3 * r) 2 (nI M)) (by omega) (by unfold mFuel; omega) (k3.1 93 (by omega) (by omega)) (k3.2.1 92 (by omega))
        have hG : ∀ i, i < M → (fun j => g2 (S.1 93 (201 * x + j)) (S.1 93 (201 * y + j))) i = 0 ∨ ((fun j => g2 (S.1 93 (201 * x + j)) (S.1 93 (201 * y + j))) i = 1 ∧ (fun j => if g2 (S.1 93 (201 * x + j)) (S.1 93 (201 * y + j)) = 0 then jn w (S.2.1 92 (201 * x + j)) (S.2.1 92 (201 * y + j)) else 0) i = 0) := fun i hi => by
          by_cases e : S.1 93 (201 * x + i) = 0 ∧ S.1 93 (201 * y + i) = 0
          · exact Or.inl (if_pos e)
          · have e' : g2 (S.1 93 (201 * x + i)) (S.1 93 (201 * y + i)) = 1 := if_neg e
            exact Or.inr ⟨e', if_neg (by rw [e']; decide)⟩
        obtain ⟨S2, u1, u2⟩ := ref_out (by omega) hMn hG m2 m1
        have k91 : (setI S' (54 + 3 * r) 2 (nI M)).1 91 = S.1 91 := k3.1 91 (by omega) (by omega)
        refine ⟨nI M, setI S' (54 + 3 * r) 2 (nI M), S2, c44 _ ?_, hR _ _ (by rw [k91]; exact x5) ?_, reck_inv h (by omega) hMn eM hG k3 u2⟩
        · unfold f_X11_reckon_44 f_X11_reckon_81
          rw [if_pos rfl, isIn_eq, mBind_of, if_neg (fun z => b01.mp z hK), if_pos lt3, z1, mBind_of, if_neg (by decide), if_pos r4', cr]
          simp only [bnd]
          rw [if_pos x4', if_pos y4', cx, cy, show 53 + 1 + 3 * r = 54 + 3 * r by omega, show 53 + 1 + 3 * x = 54 + 3 * x by omega, show 53 + 1 + 3 * y = 54 + 3 * y by omega]
          unfold f_X3_reckonTwo f_J9_min_7cf53
          rw [x4, y4]
          have em : (if nI n' < nI n then some (nI n', S) else some (nI n, S)) = some (nI M, S) := by
            by_cases e : n' < n
            · rw [if_pos (nI_lt e (by omega)), show n' = M by omega]
            · rw [if_neg (nI_nlt (by omega) (by omega)), show n = M by omega]
          have k1 : f_X3_reckonTwo_16 mFuel (54 + 3 * r) w (54 + 3 * x) (54 + 3 * y) (nI M) 0 S = some ((), setI S' (54 + 3 * r) 2 (nI M)) := k1
          rw [em, mBind_of, k1, mBind_of, if_pos (ixc (show r < 4 by omega) (by omega)), setI_same]
        · rw [if_neg n3w, isRow_any (n := n') y1 ⟨n', by omega, by rw [k91]; exact y5⟩, mBind_of, if_neg (by decide)]
          refine c85 _ _ ?_
          unfold f_X12_reckon_85
          rw [in_eq, mBind_of, if_neg (fun z => b01.mp z (by rw [lm1000, l1000]; exact hK)), if_neg n3w, if_pos y4', if_pos x4', cx, cy, k91, x5, y5]
          have u1 : f_X12_reckon_135 mFuel (nI r) w (nI x) (nI y) K (nI M) 0 (setI S' (54 + 3 * r) 2 (nI M)) = some (nI M, S2) := u1
          by_cases e : n ≤ n'
          · rw [if_pos (nI_le e (by omega)), if_pos (ixc (show x < 4 by omega) (by omega))]
            simp only [bnd]
            rw [show n = M by omega]
            exact u1
          · rw [if_neg (nI_ge (by omega) (by omega)), if_pos (ixc (show y < 4 by omega) (by omega))]
            simp only [bnd]
            rw [show n' = M by omega]
            exact u1
      · refine ⟨-1, S, S, c44 _ ?_, hR S _ x5 ?_, h.mono (by omega)⟩
        · unfold f_X11_reckon_44
          rw [if_pos rfl, isIn_eq, mBind_of, if_pos (b01.mpr hK)]
        · rw [if_neg n3w, z2, mBind_of, if_neg (by decide)]
          refine c85 _ _ ?_
          unfold f_X12_reckon_85
          rw [in_eq, mBind_of, if_pos (b01.mpr (by rw [lm1000, l1000]; exact hK))]
  rcases in07.mp hw with hw' | hw' | hw' | rfl | rfl | rfl | rfl | rfl
  · exact low (Or.inl hw')
  · exact low (Or.inr (Or.inl hw'))
  · exact low (Or.inr (Or.inr hw'))
  · refine cnt (Or.inl rfl) (fun k k1 k2 e => ?_)
    subst e
    have st := st3 (x := x) (g := fun j => S.1 93 (201 * x + j)) (v := fun j => S.2.1 92 (201 * x + j)) x2 k1 k2
    refine reck_one h (by omega) hxx (by decide) (fun i hi => ?_) (cls (by decide) _ _ st) (fun i hi T e1 e2 _ => rs3 x1 x2 k1 k2 h01 i hi T e1 e2)
    rcases G3_01 k (fun j => S.1 93 (201 * x + j)) i with e | e
    · exact Or.inl e
    · exact Or.inr ⟨e, if_neg (by rw [e]; decide)⟩
  · refine cnt (Or.inr rfl) (fun k k1 k2 e => ?_)
    subst e
    have st := st4 (x := x) (g := fun j => S.1 93 (201 * x + j)) (v := fun j => S.2.1 92 (201 * x + j)) x2 k2
    refine reck_one h (by omega) hxx (by decide) (fun i hi => ?_) (cls (by decide) _ _ st) (fun i hi T e1 e2 _ => rs4 x1 x2 k2 i hi T e1 e2)
    by_cases e : k ≤ i ∧ S.1 93 (201 * x + i) = 0 ∧ S.1 93 (201 * x + (i - k)) = 0
    · exact Or.inl (if_pos e)
    · have e' : G4 k (fun j => S.1 93 (201 * x + j)) i = 1 := if_neg e
      exact Or.inr ⟨e', if_neg (by rw [e']; decide)⟩
  · refine big (Or.inl rfl) ?_
    have st := st5 (x := x) (K := K) (g := fun j => S.1 93 (201 * x + j)) (v := fun j => S.2.1 92 (201 * x + j)) x2
    refine reck_one h (by omega) hxx (by decide) (fun i hi => ?_) (cls (by decide) _ _ st) (fun i hi T e1 e2 _ => rs5 x1 x2 i hi T e1 e2)
    by_cases e : S.1 93 (201 * x + i) = 0 ∧ 0 ≤ lg_cmp (S.2.1 92 (201 * x + i)) K.toInt64
    · exact Or.inl (if_pos e)
    · have e' : G5 K (fun j => S.1 93 (201 * x + j)) (fun j => S.2.1 92 (201 * x + j)) i = 1 := if_neg e
      exact Or.inr ⟨e', if_neg (by rw [e']; decide)⟩
  · refine big (Or.inr (Or.inl rfl)) ?_
    refine reck_one h (by omega) hxx (by decide) (fun i hi => ?_) ?_ (rs6 x1 x2 h01)
    · unfold fG fW
      by_cases e : kn (fun j => S.1 93 (201 * x + j)) (i + 1) = 0
      · rw [if_pos e, if_pos e]
        exact Or.inr ⟨rfl, rfl⟩
      · rw [if_neg e]
        exact Or.inl rfl
    · obtain ⟨S', k1, k2⟩ := fill_loop (r := r) (x := x) (g := fun j => S.1 93 (201 * x + j)) (v := fun j => S.2.1 92 (201 * x + j)) x2 n 0 mFuel (setI S (54 + 3 * r) 2 (nI n)) (by omega) (by unfold mFuel; omega) (setI_same _ _ _ _) (fun j _ hj => hdat j hj)
      refine ⟨S', ?_, cR_of' k2⟩
      unfold f_X3_reckonOne f_X3_fillFrom
      rw [if_pos rfl, x4]
      simp only [bnd]
      have k1 : f_X3_fillFrom_15 mFuel (54 + 3 * r) (54 + 3 * x) 0 0 0 (setI S (54 + 3 * r) 2 (nI n)) = some ((), S') := k1
      rw [k1, mBind_of]
  · refine big (Or.inr (Or.inr rfl)) ?_
    have st := st7 (x := x) (K := K) (g := fun j => S.1 93 (201 * x + j)) (v := fun j => S.2.1 92 (201 * x + j)) x2 h01
    refine reck_one h (by omega) hxx (by decide) (fun i hi => ?_) (cls (by decide) _ _ st) (fun i hi T e1 e2 _ => rs7 x1 x2 h01 i hi T e1 e2)
    rcases h01 i hi with e | e
    · exact Or.inl e
    · refine Or.inr ⟨e, if_neg (fun z => ?_)⟩
      have z : S.1 93 (201 * x + i) = 0 := z
      rw [e] at z
      exact absurd z (by decide)
