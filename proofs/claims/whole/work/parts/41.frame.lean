/-! PURE: frame -/
theorem l8 (p : Int32) : p.toInt64 ≤ (8 : Int64) ↔ p ≤ 8 := by rw [show (8 : Int64) = (8 : Int32).toInt64 by decide, l_le]
theorem l1' (p : Int32) : (1 : Int64) ≤ p.toInt64 ↔ 1 ≤ p := by rw [show (1 : Int64) = (1 : Int32).toInt64 by decide, l_le]
/-- the low byte of what was found -/
def lb (S : mM) (n j : Nat) : Int32 := if j < n then S.1 96 j &&& 255 else 0
theorem low_eq {S : mM} {n j : Nat} (hn : n ≤ 20) (h1 : S.1 66 2 = nI n) (h3 : ∀ i, i < n → S.1 67 i = S.1 96 i ∧ S.1 68 i = S.1 97 i) (hj : j < 2 ^ 31) : f_X10_lowByte (nI j) S = some (lb S n j, S) := by
  unfold f_X10_lowByte lb
  rw [wire_has hn h1, mBind_of]
  by_cases q : j < n
  · have e : ∃ k, k < n ∧ nI j = nI k := ⟨j, q, rfl⟩
    simp only [e, if_true, show ¬ (1 : Int32) = 0 by decide, if_false, if_pos (ix (show j < 20 by omega) (by omega)), if_pos (ixc (show j < 20 by omega) (by omega)), nI_clamp hj, q, (h3 j q).1]
  · have e : ¬ ∃ k, k < n ∧ nI j = nI k := fun ⟨k, hk, hq⟩ => q (by rw [(nI_eq hj (by omega)).mp hq]; exact hk)
    simp only [e, q, if_false, if_true]
theorem frame_in {S : mM} {n i w : Nat} {k8 : Int32 → mM → Option (Int32 × mM)} (hn : n ≤ 20) (h1 : S.1 66 2 = nI n) (h3 : ∀ i, i < n → S.1 67 i = S.1 96 i ∧ S.1 68 i = S.1 97 i) (hw : i + w + 2 < n) :
    ∀ (m j f f' : Nat) (sum : Int32), j + m = w → m < f → m < f' → ∃ b : Int32, (b = 0 ∨ b = 1) ∧ f_X10_beginsFrame_47 f (nI i) (nI w) sum (nI j) S = some (b, S) ∧ f_X12_frame_88 f' k8 (nI i) (nI w) sum (nI j) S = (if b = 1 then some (nI i, S) else k8 (nI (i + 1)) S)
  | 0, j, f + 1, f' + 1, sum, hm, _, _ => by
    have e1 : nI i + nI w + (2 : Int32) = nI (i + w + 2) := by rw [nI_add]; exact nI_add _ 2
    have e2 : nI i + (2 : Int32) + nI w = nI (i + w + 2) := by rw [show nI i + (2 : Int32) = nI (i + 2) from nI_add i 2, nI_add]; congr 1; omega
    have le : nI w ≤ nI j := nI_le (by omega) (by omega)
    have el : lb S n (i + w + 2) = S.1 96 (i + w + 2) &&& 255 := if_pos hw
    by_cases q : S.1 96 (i + w + 2) &&& 255 = sum &&& 255
    · refine ⟨1, Or.inr rfl, ?_, ?_⟩
      · unfold f_X10_beginsFrame_47
        rw [if_pos le, e1, low_eq hn h1 h3 (by omega), mBind_of, el, if_pos q]
      · unfold f_X12_frame_88
        rw [if_pos le, e2, if_pos (ix (show i + w + 2 < 20 by omega) (by omega)), nI_clamp (by omega), if_pos q.symm, if_pos rfl]
    · refine ⟨0, Or.inl rfl, ?_, ?_⟩
      · unfold f_X10_beginsFrame_47
        rw [if_pos le, e1, low_eq hn h1 h3 (by omega), mBind_of, el, if_neg q]
      · unfold f_X12_frame_88
        rw [if_pos le, e2, if_pos (ix (show i + w + 2 < 20 by omega) (by omega)), nI_clamp (by omega), if_neg (fun z => q z.symm), if_neg (by decide)]
        simp only [bnd, nI_1]
  | m + 1, j, f + 1, f' + 1, sum, hm, hf, hf' => by
    have e2 : nI i + (2 : Int32) + nI j = nI (i + 2 + j) := by rw [show nI i + (2 : Int32) = nI (i + 2) from nI_add i 2, nI_add]
    have le : ¬ nI w ≤ nI j := nI_ge (by omega) (by omega)
    have el : lb S n (i + 2 + j) = S.1 96 (i + 2 + j) &&& 255 := if_pos (by omega)
    obtain ⟨b, b0, b1, b2⟩ := frame_in (k8 := k8) hn h1 h3 hw m (j + 1) f f' (sum + (S.1 96 (i + 2 + j) &&& 255)) (by omega) (by omega) (by omega)
    refine ⟨b, b0, ?_, ?_⟩
    · unfold f_X10_beginsFrame_47
      rw [if_neg le, e2, low_eq hn h1 h3 (by omega), mBind_of, el]
      simp only [bnd, nI_1]
      exact b1
    · unfold f_X12_frame_88
      rw [if_neg le, e2, if_pos (ix (show i + 2 + j < 20 by omega) (by omega)), nI_clamp (by omega)]
      simp only [bnd, nI_1]
      exact b2
theorem in18 {p : Int32} : (1 ≤ p ∧ p ≤ 8) ↔ ∃ k, 1 ≤ k ∧ k ≤ 8 ∧ p = nI k := by
  constructor
  · rintro ⟨h0, h1⟩
    have : 0 ≤ p := by
      rw [Int32.le_iff_toInt_le] at h0 ⊢
      have e1 : (1 : Int32).toInt = 1 := by decide
      have e0 : (0 : Int32).toInt = 0 := by decide
      omega
    obtain ⟨k, hk, rfl⟩ := (upto (n := 8) (by omega)).mp ⟨this, h1⟩
    refine ⟨k, ?_, hk, rfl⟩
    exact (nI_leI (a := 1) (by omega) (by omega)).mp h0
  · rintro ⟨k, h0, h1, rfl⟩
    exact ⟨nI_le (a := 1) h0 (by omega), nI_le (b := 8) h1 (by omega)⟩
theorem frame_loop {S : mM} {n : Nat} (hn : n ≤ 20) (h1 : S.1 66 2 = nI n) (h2 : S.1 69 48 = nI n) (h3 : ∀ i, i < n → S.1 67 i = S.1 96 i ∧ S.1 68 i = S.1 97 i) :
    ∀ (m i f f' : Nat), n ≤ i + m → i < 2 ^ 30 → m < f → m < f' → ∃ r, f_X10_findFrame_6 f (nI i) S = some (r, S) ∧ f_X12_frame_8 f' (nI i) S = some (r, S) := by
  intro m
  induction m with
  | zero =>
    intro i f f' hm hi hf hf'
    obtain ⟨f, rfl⟩ : ∃ g, f = g + 1 := ⟨f - 1, by omega⟩
    obtain ⟨f', rfl⟩ : ∃ g, f' = g + 1 := ⟨f' - 1, by omega⟩
    refine ⟨-4, ?_, ?_⟩
    · unfold f_X10_findFrame_6
      rw [h1, if_pos (nI_le (by omega) (by omega))]
    · unfold f_X12_frame_8
      rw [h2, if_pos (nI_le (by omega) (by omega))]
  | succ m ih =>
    intro i f f' hm hi hf hf'
    obtain ⟨f, rfl⟩ : ∃ g, f = g + 1 := ⟨f - 1, by omega⟩
    obtain ⟨f', rfl⟩ : ∃ g, f' = g + 1 := ⟨f' - 1, by omega⟩
    unfold f_X10_findFrame_6 f_X12_frame_8
    rw [h1, h2]
    by_cases hin : n ≤ i
    · rw [if_pos (nI_le hin (by omega)), if_pos (nI_le hin (by omega))]
      exact ⟨_, rfl, rfl⟩
    · have hge : ¬ nI n ≤ nI i := nI_ge (by omega) (by omega)
      rw [if_neg hge, if_neg hge]
      obtain ⟨r, k1, k2⟩ := ih (i + 1) f f' (by omega) (by omega) (by omega) (by omega)
      have es : nI i + (1 : Int32) = nI (i + 1) := nI_1 i
      have eR : (if nI n ≤ nI i + (1 : Int32) then f_X12_frame_42 (f_X12_frame_8 f') (nI i) (0 : Int32) S else if 0 ≤ nI i + (1 : Int32) ∧ (nI i + (1 : Int32)).toNatClampNeg < 20 then f_X12_frame_42 (f_X12_frame_8 f') (nI i) ((S.1 96 (nI i + (1 : Int32)).toNatClampNeg) &&& (255 : Int32)) S else none) = f_X12_frame_42 (f_X12_frame_8 f') (nI i) (lb S n (i + 1)) S := by
        rw [es]
        unfold lb
        by_cases q : i + 1 < n
        · rw [if_neg (nI_ge q (by omega)), if_pos (ix (show i + 1 < 20 by omega) (by omega)), nI_clamp (by omega), if_pos q]
        · rw [if_pos (nI_le (by omega) (by omega)), if_neg q]
      rw [eR]
      unfold f_X10_beginsFrame f_X12_frame_42
      rw [es, low_eq hn h1 h3 (by omega), mBind_of, low_eq hn h1 h3 (by omega), mBind_of, if_pos (ix (show i < 20 by omega) (by omega)), nI_clamp (by omega), show lb S n i = S.1 96 i &&& 255 from if_pos (by omega)]
      by_cases hm85 : S.1 96 i &&& 255 = 85
      · rw [if_pos hm85, if_pos hm85, isIn_eq, mBind_of, in_eq, mBind_of]
        have t2 : ((1 : Int64) ≤ (lb S n (i + 1)).toInt64 ∧ (lb S n (i + 1)).toInt64 ≤ 8) ↔ (1 ≤ lb S n (i + 1) ∧ lb S n (i + 1) ≤ 8) := by rw [l1', l8]
        by_cases hw : ∃ k, 1 ≤ k ∧ k ≤ 8 ∧ lb S n (i + 1) = nI k
        · rw [if_neg (fun z => b01.mp z (in18.mpr hw)), if_neg (fun z => b01.mp z (t2.mpr (in18.mpr hw)))]
          obtain ⟨w, w1, w8, hw⟩ := hw
          rw [hw]
          have e1 : nI i + nI w + (2 : Int32) = nI (i + w + 2) := by rw [nI_add]; exact nI_add _ 2
          rw [e1, wire_has hn h1, mBind_of, h2]
          by_cases hl : i + w + 2 < n
          · have e : ∃ k, k < n ∧ nI (i + w + 2) = nI k := ⟨_, hl, rfl⟩
            obtain ⟨b, b0, b1, b2⟩ := frame_in (k8 := f_X12_frame_8 f') hn h1 h3 hl w 0 mFuel mFuel (nI w) (by omega) (by unfold mFuel; omega) (by unfold mFuel; omega)
            have b1 : f_X10_beginsFrame_47 mFuel (nI i) (nI w) (nI w) 0 S = some (b, S) := b1
            have b2 : f_X12_frame_88 mFuel (f_X12_frame_8 f') (nI i) (nI w) (nI w) 0 S = _ := b2
            simp only [e, if_true, show ¬ (1 : Int32) = 0 by decide, if_false]
            rw [b1, mBind_of, if_neg (nI_ge hl (by omega)), b2]
            rcases b0 with rfl | rfl
            · simp only [if_true, bnd, show ¬ (0 : Int32) = 1 by decide, if_false]
              exact ⟨r, k1, k2⟩
            · simp only [if_true, show ¬ (1 : Int32) = 0 by decide, if_false]
              exact ⟨_, rfl, rfl⟩
          · have e : ¬ ∃ k, k < n ∧ nI (i + w + 2) = nI k := fun ⟨k, hk, hq⟩ => hl (by rw [(nI_eq (by omega) (by omega)).mp hq]; exact hk)
            rw [if_pos (nI_le (by omega) (by omega))]
            simp only [e, if_false, if_true, mBind_of, bnd]
            exact ⟨r, k1, k2⟩
        · rw [if_pos (b01.mpr (fun z => hw (in18.mp z))), if_pos (b01.mpr (fun z => hw (in18.mp (t2.mp z)))), mBind_of, if_pos rfl]
          simp only [bnd]
          exact ⟨r, k1, k2⟩
      · rw [if_neg hm85, if_neg hm85, mBind_of, if_pos rfl]
        simp only [bnd]
        exact ⟨r, k1, k2⟩
theorem ag_frame (c : Nat) (p : Int32) : Ag c (f_X11_frame p) (f_X12_frame p) := Ag.read (fun S h => by
  obtain ⟨-, n, hn, h1, h2, h3⟩ := h.2.2.2.2.2.2.2
  unfold f_X11_frame f_X12_frame
  by_cases h0 : 0 ≤ p
  · rw [if_pos h0, if_pos h0]
    obtain ⟨j, hj, rfl⟩ := nI_of (Int32.not_lt.mpr h0)
    unfold f_X10_findFrame f_J9_max_7cf53
    rw [if_neg (nI_pos hj), mBind_of]
    by_cases hb : j < 2 ^ 30
    · obtain ⟨r, k1, k2⟩ := frame_loop hn h1 h2 h3 20 j mFuel mFuel (by omega) hb (by unfold mFuel; omega) (by unfold mFuel; omega)
      rw [k1, mBind_of]
      exact ⟨r, rfl, k2⟩
    · have le : nI n ≤ nI j := nI_le (by omega) hj
      have e1 : f_X10_findFrame_6 mFuel (nI j) S = some (-4, S) := by
        show f_X10_findFrame_6 (99999 + 1) (nI j) S = _
        unfold f_X10_findFrame_6
        rw [h1, if_pos le]
      have e2 : f_X12_frame_8 mFuel (nI j) S = some (-4, S) := by
        show f_X12_frame_8 (99999 + 1) (nI j) S = _
        unfold f_X12_frame_8
        rw [h2, if_pos le]
      rw [e1, mBind_of]
      exact ⟨_, rfl, e2⟩
  · rw [if_neg h0, if_neg h0]
    exact ⟨_, rfl, rfl⟩)
