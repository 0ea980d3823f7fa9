/-! PURE: trigger: the reference's next token -/
theorem byte_k {b : Int32} (h : b.toInt8.toInt32 = b) : ∃ v, v < 256 ∧ b = (Int8.ofNat v).toInt32 := by
  refine ⟨b.toInt8.toBitVec.toNat, b.toInt8.toBitVec.isLt, ?_⟩
  rw [← h]
  congr 1
  apply Int8.toBitVec_inj.mp
  rw [h]
  show b.toInt8.toBitVec = BitVec.ofNat 8 b.toInt8.toBitVec.toNat
  rw [BitVec.ofNat_toNat, BitVec.setWidth_eq]
theorem ch_all : ∀ v, v < 256 → (((Int8.ofNat v).toInt32 &&& 255 = 32 ↔ (Int8.ofNat v).toInt32 = 32) ∧ ((Int8.ofNat v).toInt32 &&& 255 = 45 ↔ (Int8.ofNat v).toInt32 = 45) ∧ ((Int8.ofNat v).toInt32 &&& 255 = 42 ↔ (Int8.ofNat v).toInt32 = 42) ∧ ((Int8.ofNat v).toInt32 &&& 255 = 59 ↔ (Int8.ofNat v).toInt32 = 59) ∧
    ((97 ≤ (Int8.ofNat v).toInt32 &&& 255 ∧ (Int8.ofNat v).toInt32 &&& 255 ≤ 122) ↔ (97 ≤ (Int8.ofNat v).toInt32 ∧ (Int8.ofNat v).toInt32 ≤ 122)) ∧ ((48 ≤ (Int8.ofNat v).toInt32 &&& 255 ∧ (Int8.ofNat v).toInt32 &&& 255 ≤ 57) ↔ (48 ≤ (Int8.ofNat v).toInt32 ∧ (Int8.ofNat v).toInt32 ≤ 57)) ∧
    (97 ≤ (Int8.ofNat v).toInt32 ∧ (Int8.ofNat v).toInt32 ≤ 122 → (Int8.ofNat v).toInt32 &&& 255 = (Int8.ofNat v).toInt32) ∧ (48 ≤ (Int8.ofNat v).toInt32 ∧ (Int8.ofNat v).toInt32 ≤ 57 → (Int8.ofNat v).toInt32 &&& 255 = (Int8.ofNat v).toInt32) ∧ 0 ≤ (Int8.ofNat v).toInt32 &&& 255) := by decide +kernel
theorem ch {b : Int32} (h : b.toInt8.toInt32 = b) : ((b &&& 255 = 32 ↔ b = 32) ∧ (b &&& 255 = 45 ↔ b = 45) ∧ (b &&& 255 = 42 ↔ b = 42) ∧ (b &&& 255 = 59 ↔ b = 59) ∧
    ((97 ≤ b &&& 255 ∧ b &&& 255 ≤ 122) ↔ (97 ≤ b ∧ b ≤ 122)) ∧ ((48 ≤ b &&& 255 ∧ b &&& 255 ≤ 57) ↔ (48 ≤ b ∧ b ≤ 57)) ∧ (97 ≤ b ∧ b ≤ 122 → b &&& 255 = b) ∧ (48 ≤ b ∧ b ≤ 57 → b &&& 255 = b) ∧ 0 ≤ b &&& 255) := by
  obtain ⟨v, hv, rfl⟩ := byte_k h
  exact ch_all v hv
def bE (T : mM) (B : Nat → Int32) (n : Nat) : Prop := n ≤ 200 ∧ T.1 69 1 = nI n ∧ ∀ k, k < n → T.1 70 k = B k &&& 255 ∧ (B k).toInt8.toInt32 = B k
def nF (T T' : mM) : Prop := (∀ b, b ≠ 69 → T'.1 b = T.1 b) ∧ (∀ j, ¬ (18 ≤ j ∧ j ≤ 23) → T'.1 69 j = T.1 69 j) ∧ (∀ b, b ≠ 69 → T'.2.1 b = T.2.1 b) ∧ T'.2.2 = T.2.2
theorem nF.rfl {T : mM} : nF T T := ⟨fun _ _ => Eq.refl _, fun _ _ => Eq.refl _, fun _ _ => Eq.refl _, Eq.refl _⟩
theorem nF.tr {T T1 T2 : mM} (h : nF T T1) (k : nF T1 T2) : nF T T2 := ⟨fun b q => (k.1 b q).trans (h.1 b q), fun j q => (k.2.1 j q).trans (h.2.1 j q), fun b q => (k.2.2.1 b q).trans (h.2.2.1 b q), k.2.2.2.trans h.2.2.2⟩
theorem nF.set {T : mM} {j : Nat} {v : Int32} (hj : 18 ≤ j ∧ j ≤ 23) : nF T (setI T 69 j v) := ⟨fun b q => setI_row _ _ _ _ q, fun i q => setI_slot _ _ _ _ (by omega) _, fun _ _ => Eq.refl _, Eq.refl _⟩
theorem nF.setJ {T : mM} {v : Int64} : nF T (setJ T 69 24 v) := ⟨fun b q => Eq.refl _, fun i q => Eq.refl _, fun b q => setJ_row _ _ _ _ q, Eq.refl _⟩
theorem nF.bE {T T' : mM} {B : Nat → Int32} {n : Nat} (h : nF T T') (e : bE T B n) : bE T' B n := ⟨e.1, by rw [h.2.1 1 (by omega)]; exact e.2.1, fun k hk => by rw [h.1 70 (by omega)]; exact e.2.2 k hk⟩
theorem look_in {T : mM} {B : Nat → Int32} {n i : Nat} (e : bE T B n) (h : T.1 69 20 = nI i) (hi : i < n) : f_X12_look T = some (B i &&& 255, T) := by
  have := e.1
  unfold f_X12_look
  rw [e.2.1, h, if_neg (nI_ge hi (by omega)), if_pos (ix (show i < 200 by omega) (by omega)), nI_clamp (by omega), (e.2.2 i hi).1]
theorem look_out {T : mM} {B : Nat → Int32} {n i : Nat} (e : bE T B n) (h : T.1 69 20 = nI i) (hi : n ≤ i) (hi2 : i < 1000) : f_X12_look T = some (-1, T) := by
  have := e.1
  unfold f_X12_look
  rw [e.2.1, h, if_pos (nI_le hi (by omega))]
theorem fails_eq {T : mM} {e q : Int32} (h : T.1 69 18 = 0) : f_X12_fails e q T = some ((), setI (setI T 69 18 e) 69 19 q) := by
  unfold f_X12_fails
  rw [if_pos h]
  rfl
theorem l97 (x : Int32) : (97 : Int64) ≤ x.toInt64 ↔ 97 ≤ x := by rw [show (97 : Int64) = (97 : Int32).toInt64 by decide, l_le]
theorem l122 (x : Int32) : x.toInt64 ≤ (122 : Int64) ↔ x ≤ 122 := by rw [show (122 : Int64) = (122 : Int32).toInt64 by decide, l_le]
theorem l48 (x : Int32) : (48 : Int64) ≤ x.toInt64 ↔ 48 ≤ x := by rw [show (48 : Int64) = (48 : Int32).toInt64 by decide, l_le]
theorem l57 (x : Int32) : x.toInt64 ≤ (57 : Int64) ↔ x ≤ 57 := by rw [show (57 : Int64) = (57 : Int32).toInt64 by decide, l_le]
/-! words, by number -/
def Ww (B : Nat → Int32) (s : Nat) : Nat → Int64
  | 0 => 0
  | j + 1 => if j < 6 then (27 : Int64) * Ww B s j + (B (s + j)).toInt64 - 96 else -1
def pkf (x : Nat → Nat) : Nat → Nat
  | 0 => 0
  | j + 1 => 27 * pkf x j + x j
theorem pk_inj {x y : Nat → Nat} : ∀ L M, (∀ j, j < L → 1 ≤ x j ∧ x j ≤ 26) → (∀ j, j < M → 1 ≤ y j ∧ y j ≤ 26) → (pkf x L = pkf y M ↔ (L = M ∧ ∀ j, j < M → x j = y j))
  | 0, 0, _, _ => ⟨fun _ => ⟨rfl, fun j hj => absurd hj (by omega)⟩, fun _ => rfl⟩
  | 0, M + 1, _, hy => by
    have := hy M (by omega)
    constructor
    · intro h
      have h : 0 = 27 * pkf y M + y M := h
      omega
    · intro h
      exact absurd h.1 (by omega)
  | L + 1, 0, hx, _ => by
    have := hx L (by omega)
    constructor
    · intro h
      have h : 27 * pkf x L + x L = 0 := h
      omega
    · intro h
      exact absurd h.1 (by omega)
  | L + 1, M + 1, hx, hy => by
    have ih := pk_inj L M (fun j hj => hx j (by omega)) (fun j hj => hy j (by omega))
    have h1 := hx L (by omega)
    have h2 := hy M (by omega)
    constructor
    · intro h
      have h : 27 * pkf x L + x L = 27 * pkf y M + y M := h
      obtain ⟨e1, e2⟩ := ih.mp (by omega)
      subst e1
      have e3 := ih.mpr ⟨rfl, e2⟩
      refine ⟨rfl, fun j hj => ?_⟩
      by_cases q : j = L
      · rw [q]
        omega
      · exact e2 j (by omega)
    · intro ⟨e, h⟩
      have e : L = M := by omega
      subst e
      show 27 * pkf x L + x L = 27 * pkf y L + y L
      rw [ih.mpr ⟨rfl, fun j hj => h j (by omega)⟩, h L (by omega)]
theorem pkf_lt {x : Nat → Nat} : ∀ j, (∀ k, k < j → x k ≤ 26) → pkf x j + 1 ≤ 27 ^ j
  | 0, _ => Nat.le_refl 1
  | j + 1, h => by
    have ih := pkf_lt (x := x) j (fun k hk => h k (by omega))
    have := h j (by omega)
    show 27 * pkf x j + x j + 1 ≤ 27 ^ (j + 1)
    rw [Nat.pow_succ]
    omega
def xB (B : Nat → Int32) (s j : Nat) : Nat := (B (s + j)).toNatClampNeg - 96
def yw (w j : Nat) : Nat := ((mSB.getD w []).getD j 0).toNatClampNeg - 96
theorem lt_x {b : Int32} (h : 97 ≤ b ∧ b ≤ 122) : ∃ x, 1 ≤ x ∧ x ≤ 26 ∧ b = nI (96 + x) ∧ b.toNatClampNeg - 96 = x := by
  obtain ⟨k, hk, rfl⟩ := (upto (p := b) (n := 122) (by omega)).mp ⟨Int32.le_trans (by decide) h.1, h.2⟩
  have := (nI_leI (a := 97) (b := k) (by omega) (by omega)).mp h.1
  refine ⟨k - 96, by omega, by omega, by rw [show 96 + (k - 96) = k by omega], by rw [nI_clamp (by omega)]⟩
theorem Ww_int {B : Nat → Int32} {s : Nat} : ∀ j, j ≤ 6 → (∀ k, k < j → isLt B (s + k) = true) → (Ww B s j).toInt = pkf (xB B s) j
  | 0, _, _ => by
    show (0 : Int64).toInt = ((0 : Nat) : Int)
    decide
  | j + 1, hj, h => by
    have ih := Ww_int (B := B) (s := s) j (by omega) (fun k hk => h k (by omega))
    have hx : ∀ k, k < j → xB B s k ≤ 26 := fun k hk => by
      obtain ⟨x, x1, x2, x3, x4⟩ := lt_x (of_decide_eq_true (h k (by omega)))
      unfold xB
      rw [x4]
      exact x2
    have hl := pkf_lt (x := xB B s) j hx
    have h6 : 27 ^ j ≤ 27 ^ 5 := Nat.pow_le_pow_right (by omega) (by omega)
    have h5 : 27 ^ 5 = 14348907 := by decide
    obtain ⟨x, x1, x2, x3, x4⟩ := lt_x (of_decide_eq_true (h j (by omega)))
    show (if j < 6 then (27 : Int64) * Ww B s j + (B (s + j)).toInt64 - 96 else -1).toInt = ((27 * pkf (xB B s) j + xB B s j : Nat) : Int)
    rw [if_pos (by omega), Int64.toInt_sub, Int64.toInt_add, Int64.toInt_mul, ih, Int32.toInt_toInt64, show (27 : Int64).toInt = 27 by decide, show (96 : Int64).toInt = 96 by decide, show xB B s j = x from x4, x3, nI_toInt (by omega), Int.bmod_eq_of_le (n := 27 * (pkf (xB B s) j : Int)) (by omega) (by omega), Int.bmod_eq_of_le (n := 27 * (pkf (xB B s) j : Int) + ((96 + x : Nat) : Int)) (by omega) (by omega), Int.bmod_eq_of_le (by omega) (by omega)]
    omega
theorem Ww_big {B : Nat → Int32} {s L : Nat} (h : 6 < L) : Ww B s L = -1 := by
  cases L with
  | zero => omega
  | succ j => exact if_neg (by omega)
theorem yw_b : ∀ w, w < 9 → ∀ j, j < mSL.getD w 0 → (1 ≤ yw w j ∧ yw w j ≤ 26) ∧ (mSB.getD w []).getD j 0 = nI (96 + yw w j) := by decide
theorem pw_lt : ∀ w, w < 9 → pkf (yw w) (mSL.getD w 0) < 2 ^ 30 := by decide
/-- the word's number is that of w just where w stands there -/
theorem word_iff {B : Nat → Int32} {s L w : Nat} (hw : w < 9) (h : ∀ k, k < L → isLt B (s + k) = true) : Ww B s L = Int64.ofNat (pkf (yw w) (mSL.getD w 0)) ↔ mt B L s w = true := by
  have hC : (Int64.ofNat (pkf (yw w) (mSL.getD w 0))).toInt = pkf (yw w) (mSL.getD w 0) := by
    have := pw_lt w hw
    exact Int64.toInt_ofNat_of_lt (by omega)
  have hL6 := mSL_6 w hw
  by_cases h6 : L ≤ 6
  · rw [← Int64.toInt_inj, hC, Ww_int L h6 h]
    have hx : ∀ j, j < L → ∃ x, 1 ≤ x ∧ x ≤ 26 ∧ B (s + j) = nI (96 + x) ∧ xB B s j = x := fun j hj => lt_x (of_decide_eq_true (h j hj))
    have hi := pk_inj (x := xB B s) (y := yw w) L (mSL.getD w 0) (fun j hj => by
      obtain ⟨x, x1, x2, x3, x4⟩ := hx j hj
      rw [x4]
      exact ⟨x1, x2⟩) (fun j hj => (yw_b w hw j hj).1)
    constructor
    · intro z
      obtain ⟨e1, e2⟩ := hi.mp (by omega)
      refine decide_eq_true ⟨e1, fun j hj => ?_⟩
      obtain ⟨x, x1, x2, x3, x4⟩ := hx j (by omega)
      rw [x3, (yw_b w hw j hj).2, ← e2 j hj, x4]
    · intro z
      obtain ⟨e1, e2⟩ := of_decide_eq_true z
      have := hi.mpr ⟨e1, fun j hj => by
        obtain ⟨x, x1, x2, x3, x4⟩ := hx j (by omega)
        have y := (yw_b w hw j hj).1
        have q := e2 j hj
        rw [x3, (yw_b w hw j hj).2, nI_eq (by omega) (by omega)] at q
        rw [x4]
        omega⟩
      omega
  · constructor
    · intro z
      rw [Ww_big (by omega)] at z
      have := congrArg Int64.toInt z
      rw [hC, show (-1 : Int64).toInt = -1 by decide] at this
      omega
    · intro z
      have := (of_decide_eq_true z).1
      omega
theorem pk_w (S : mM) : f_X12_packed (114 : Int32) (105 : Int32) (115 : Int32) (101 : Int32) (0 : Int32) (0 : Int32) S = some (Int64.ofNat (pkf (yw 0) (mSL.getD 0 0)), S) ∧ f_X12_packed (102 : Int32) (97 : Int32) (108 : Int32) (108 : Int32) (0 : Int32) (0 : Int32) S = some (Int64.ofNat (pkf (yw 1) (mSL.getD 1 0)), S) ∧
    f_X12_packed (119 : Int32) (105 : Int32) (100 : Int32) (101 : Int32) (0 : Int32) (0 : Int32) S = some (Int64.ofNat (pkf (yw 2) (mSL.getD 2 0)), S) ∧ f_X12_packed (116 : Int32) (104 : Int32) (105 : Int32) (110 : Int32) (0 : Int32) (0 : Int32) S = some (Int64.ofNat (pkf (yw 3) (mSL.getD 3 0)), S) ∧
    f_X12_packed (114 : Int32) (117 : Int32) (110 : Int32) (116 : Int32) (0 : Int32) (0 : Int32) S = some (Int64.ofNat (pkf (yw 4) (mSL.getD 4 0)), S) ∧ f_X12_packed (105 : Int32) (110 : Int32) (0 : Int32) (0 : Int32) (0 : Int32) (0 : Int32) S = some (Int64.ofNat (pkf (yw 5) (mSL.getD 5 0)), S) ∧
    f_X12_packed (111 : Int32) (117 : Int32) (116 : Int32) (0 : Int32) (0 : Int32) (0 : Int32) S = some (Int64.ofNat (pkf (yw 6) (mSL.getD 6 0)), S) ∧ f_X12_packed (101 : Int32) (113 : Int32) (117 : Int32) (97 : Int32) (108 : Int32) (0 : Int32) S = some (Int64.ofNat (pkf (yw 7) (mSL.getD 7 0)), S) ∧
    f_X12_packed (119 : Int32) (105 : Int32) (116 : Int32) (104 : Int32) (105 : Int32) (110 : Int32) S = some (Int64.ofNat (pkf (yw 8) (mSL.getD 8 0)), S) := ⟨rfl, rfl, rfl, rfl, rfl, rfl, rfl, rfl, rfl⟩
theorem named_eq {T : mM} {B : Nat → Int32} {s L : Nat} (h : ∀ k, k < L → isLt B (s + k) = true) : f_X12_named (Ww B s L) T = some (if wo B L s = 9 then -4 else wo B L s, T) := by
  obtain ⟨p0, p1, p2, p3, p4, p5, p6, p7, p8⟩ := pk_w T
  unfold f_X12_named wo
  simp only [p0, p1, p2, p3, p4, p5, p6, p7, p8, mBind_of, lg_cmp_eq, word_iff (show 0 < 9 by omega) h, word_iff (show 1 < 9 by omega) h, word_iff (show 2 < 9 by omega) h, word_iff (show 3 < 9 by omega) h, word_iff (show 4 < 9 by omega) h, word_iff (show 5 < 9 by omega) h, word_iff (show 6 < 9 by omega) h, word_iff (show 7 < 9 by omega) h, word_iff (show 8 < 9 by omega) h]
  by_cases c0 : mt B L s 0 = true
  · simp only [if_pos c0]
    rfl
  by_cases c1 : mt B L s 1 = true
  · simp only [if_neg c0, if_pos c1]
    rfl
  by_cases c2 : mt B L s 2 = true
  · simp only [if_neg c0, if_neg c1, if_pos c2]
    rfl
  by_cases c3 : mt B L s 3 = true
  · simp only [if_neg c0, if_neg c1, if_neg c2, if_pos c3]
    rfl
  by_cases c4 : mt B L s 4 = true
  · simp only [if_neg c0, if_neg c1, if_neg c2, if_neg c3, if_pos c4]
    rfl
  by_cases c5 : mt B L s 5 = true
  · simp only [if_neg c0, if_neg c1, if_neg c2, if_neg c3, if_neg c4, if_pos c5]
    rfl
  by_cases c6 : mt B L s 6 = true
  · simp only [if_neg c0, if_neg c1, if_neg c2, if_neg c3, if_neg c4, if_neg c5, if_pos c6]
    rfl
  by_cases c7 : mt B L s 7 = true
  · simp only [if_neg c0, if_neg c1, if_neg c2, if_neg c3, if_neg c4, if_neg c5, if_neg c6, if_pos c7]
    rfl
  by_cases c8 : mt B L s 8 = true
  · simp only [if_neg c0, if_neg c1, if_neg c2, if_neg c3, if_neg c4, if_neg c5, if_neg c6, if_neg c7, if_pos c8]
    rfl
  · simp only [if_neg c0, if_neg c1, if_neg c2, if_neg c3, if_neg c4, if_neg c5, if_neg c6, if_neg c7, if_neg c8]
    rfl
theorem wo_le (B : Nat → Int32) (L s : Nat) : ∃ k, k ≤ 9 ∧ wo B L s = nI k := by
  unfold wo
  by_cases c0 : mt B L s 0 = true
  · exact ⟨0, by omega, if_pos c0⟩
  rw [if_neg c0]
  by_cases c1 : mt B L s 1 = true
  · exact ⟨1, by omega, if_pos c1⟩
  rw [if_neg c1]
  by_cases c2 : mt B L s 2 = true
  · exact ⟨2, by omega, if_pos c2⟩
  rw [if_neg c2]
  by_cases c3 : mt B L s 3 = true
  · exact ⟨3, by omega, if_pos c3⟩
  rw [if_neg c3]
  by_cases c4 : mt B L s 4 = true
  · exact ⟨4, by omega, if_pos c4⟩
  rw [if_neg c4]
  by_cases c5 : mt B L s 5 = true
  · exact ⟨5, by omega, if_pos c5⟩
  rw [if_neg c5]
  by_cases c6 : mt B L s 6 = true
  · exact ⟨6, by omega, if_pos c6⟩
  rw [if_neg c6]
  by_cases c7 : mt B L s 7 = true
  · exact ⟨7, by omega, if_pos c7⟩
  rw [if_neg c7]
  by_cases c8 : mt B L s 8 = true
  · exact ⟨8, by omega, if_pos c8⟩
  · exact ⟨9, by omega, if_neg c8⟩
