/-! PURE: trigger: the tokens of a tape; the class's split -/
def rn (P : Nat → Bool) : Nat → Nat → Nat
  | 0, i => i
  | m + 1, i => if P i = true then rn P m (i + 1) else i
theorem rn_ge (P : Nat → Bool) : ∀ m i, i ≤ rn P m i
  | 0, i => Nat.le_refl i
  | m + 1, i => by
    show i ≤ if P i = true then rn P m (i + 1) else i
    have := rn_ge P m (i + 1)
    split <;> omega
theorem rn_le (P : Nat → Bool) : ∀ m i, rn P m i ≤ i + m
  | 0, i => Nat.le_refl i
  | m + 1, i => by
    show (if P i = true then rn P m (i + 1) else i) ≤ i + (m + 1)
    have := rn_le P m (i + 1)
    split <;> omega
theorem rn_in (P : Nat → Bool) : ∀ m i j, i ≤ j → j < rn P m i → P j = true
  | 0, i, j, h1, h2 => by
    have : j < i := h2
    omega
  | m + 1, i, j, h1, h2 => by
    have h2 : j < if P i = true then rn P m (i + 1) else i := h2
    by_cases h : P i = true
    · rw [if_pos h] at h2
      by_cases e : j = i
      · rw [e]
        exact h
      · exact rn_in P m (i + 1) j (by omega) h2
    · rw [if_neg h] at h2
      omega
theorem rn_t {P : Nat → Bool} {m i : Nat} (h : P i = true) : rn P (m + 1) i = rn P m (i + 1) := if_pos h
theorem rn_f {P : Nat → Bool} {m i : Nat} (h : ¬ P i = true) : rn P (m + 1) i = i := if_neg h
def isSp (B : Nat → Int32) (j : Nat) : Bool := decide (B j = 32)
def isLt (B : Nat → Int32) (j : Nat) : Bool := decide (97 ≤ B j ∧ B j ≤ 122)
def isDg (B : Nat → Int32) (j : Nat) : Bool := decide (48 ≤ B j ∧ B j ≤ 57)
/-- first behind spaces -/
def sk (B : Nat → Int32) (n i : Nat) : Nat := rn (isSp B) (n - i) i
def wE (B : Nat → Int32) (n i : Nat) : Nat := rn (isLt B) (n - i) i
def fg (B : Nat → Int32) (i : Nat) : Nat := if B i = 45 then i + 1 else i
def nE (B : Nat → Int32) (n i : Nat) : Nat := rn (isDg B) (n - fg B i) (fg B i)
def dv (B : Nat → Int32) : Int32 → Nat → Nat → Int32
  | acc, _, 0 => acc
  | acc, i, m + 1 => dv B ((10 : Int32) * acc + B i - 48) (i + 1) m
/-- the word w stands from i on, L letters long -/
def mt (B : Nat → Int32) (L i w : Nat) : Bool := decide (L = mSL.getD w 0 ∧ ∀ j, j < mSL.getD w 0 → B (i + j) = (mSB.getD w []).getD j 0)
def wo (B : Nat → Int32) (L i : Nat) : Int32 :=
  if mt B L i 0 = true then 0 else if mt B L i 1 = true then 1 else if mt B L i 2 = true then 2 else if mt B L i 3 = true then 3 else if mt B L i 4 = true then 4 else if mt B L i 5 = true then 5 else if mt B L i 6 = true then 6 else if mt B L i 7 = true then 7 else if mt B L i 8 = true then 8 else 9
def tK (B : Nat → Int32) (n i : Nat) : Int32 :=
  if n ≤ i then 0 else if B i = 42 then 3 else if B i = 59 then 4 else if isLt B i = true then (if wo B (wE B n i - i) i = 9 then 5 else 1) else if 1 ≤ nE B n i - fg B i ∧ nE B n i - fg B i ≤ 3 then 2 else 5
def tV (B : Nat → Int32) (n i : Nat) : Int32 :=
  if n ≤ i then 0 else if B i = 42 then 0 else if B i = 59 then 0 else if isLt B i = true then wo B (wE B n i - i) i else if B i = 45 then - dv B 0 (fg B i) (nE B n i - fg B i) else dv B 0 (fg B i) (nE B n i - fg B i)
def tE (B : Nat → Int32) (n i : Nat) : Nat :=
  if B i = 42 then i + 1 else if B i = 59 then i + 1 else if isLt B i = true then wE B n i else nE B n i
theorem wE_b {B : Nat → Int32} {n i : Nat} (h : i ≤ n) : i ≤ wE B n i ∧ wE B n i ≤ n := by
  have h1 := rn_ge (isLt B) (n - i) i
  have h2 := rn_le (isLt B) (n - i) i
  unfold wE
  omega
theorem fg_b (B : Nat → Int32) (i : Nat) : i ≤ fg B i ∧ fg B i ≤ i + 1 := by
  unfold fg
  split <;> omega
theorem nE_b {B : Nat → Int32} {n i : Nat} (h : i < n) : fg B i ≤ nE B n i ∧ nE B n i ≤ n := by
  have h0 := fg_b B i
  have h1 := rn_ge (isDg B) (n - fg B i) (fg B i)
  have h2 := rn_le (isDg B) (n - fg B i) (fg B i)
  unfold nE
  omega
theorem tE_b {B : Nat → Int32} {n i : Nat} (h : i < n) : i ≤ tE B n i ∧ tE B n i ≤ n := by
  unfold tE
  have h1 := wE_b (B := B) (show i ≤ n by omega)
  have h2 := nE_b (B := B) h
  have h3 := fg_b B i
  split
  · omega
  · split
    · omega
    · split <;> omega
theorem sk_b {B : Nat → Int32} {n i : Nat} (h : i ≤ n) : i ≤ sk B n i ∧ sk B n i ≤ n := by
  have h1 := rn_ge (isSp B) (n - i) i
  have h2 := rn_le (isSp B) (n - i) i
  unfold sk
  omega
theorem sk_sp {B : Nat → Int32} {n i : Nat} (h : i < n) (e : B i = 32) : sk B n i = sk B n (i + 1) := by
  unfold sk
  rw [show n - i = n - (i + 1) + 1 by omega, rn_t (decide_eq_true e)]
theorem sk_no {B : Nat → Int32} {n i : Nat} (e : ¬ B i = 32) : sk B n i = i := by
  unfold sk
  cases n - i with
  | zero => rfl
  | succ m => exact rn_f (fun z => e (of_decide_eq_true z))
theorem sk_end {B : Nat → Int32} {n i : Nat} (h : n ≤ i) : sk B n i = i := by
  unfold sk
  rw [show n - i = 0 by omega]
  rfl
/-- where token k is looked for, and where it begins -/
def tP (B : Nat → Int32) (n : Nat) : Nat → Nat
  | 0 => 0
  | k + 1 => max (tE B n (sk B n (tP B n k))) (sk B n (tP B n k) + 1)
def tS (B : Nat → Int32) (n k : Nat) : Nat := sk B n (tP B n k)
/-- a token put -/
def pT (S : mM) (q : Nat) (k s v : Int32) : mM := setI (setI (setI (setI S 3 q k) 4 q s) 5 q v) 1 5 (nI (q + 1))
theorem put_tok {S : mM} {q : Nat} {k s v : Int32} (hq : q < 201) (h : S.1 1 5 = nI q) : f_X9_put k s v S = some ((), pT S q k s v) := by
  have i2 : 0 ≤ nI q ∧ (nI q).toNatClampNeg < 201 := ix hq (by omega)
  have i2c : 0 ≤ nI q ∧ q < 201 := ixc hq (by omega)
  have cq : (nI q).toNatClampNeg = q := nI_clamp (by omega)
  have g1 : (setI S 3 q k).1 1 5 = nI q := by rw [setI_row _ _ _ _ (by omega)]; exact h
  have g2 : (setI (setI S 3 q k) 4 q s).1 1 5 = nI q := by rw [setI_row _ _ _ _ (by omega)]; exact g1
  have g3 : (setI (setI (setI S 3 q k) 4 q s) 5 q v).1 1 5 = nI q := by rw [setI_row _ _ _ _ (by omega)]; exact g2
  unfold f_X9_put
  rw [h, if_neg (show ¬ (201 : Int32) ≤ nI q from nI_ge (b := 201) hq (by omega)), if_pos i2, cq]
  simp only [bnd, g1, g2, g3, cq, if_pos i2, if_pos i2c, nI_1]
  rfl
theorem pT_row {S : mM} {q : Nat} {k s v : Int32} {b : Nat} (h1 : b ≠ 1) (h3 : b ≠ 3) (h4 : b ≠ 4) (h5 : b ≠ 5) : (pT S q k s v).1 b = S.1 b := by
  unfold pT
  rw [setI_row _ _ _ _ h1, setI_row _ _ _ _ h5, setI_row _ _ _ _ h4, setI_row _ _ _ _ h3]
theorem pT_1 {S : mM} {q : Nat} {k s v : Int32} {j : Nat} (h : j ≠ 5) : (pT S q k s v).1 1 j = S.1 1 j := by
  unfold pT
  rw [setI_slot _ _ _ _ h, setI_row _ _ _ _ (by omega), setI_row _ _ _ _ (by omega), setI_row _ _ _ _ (by omega)]
theorem pT_15 {S : mM} {q : Nat} {k s v : Int32} : (pT S q k s v).1 1 5 = nI (q + 1) := setI_same _ _ _ _
theorem pT_3 {S : mM} {q : Nat} {k s v : Int32} (j : Nat) : (pT S q k s v).1 3 j = if j = q then k else S.1 3 j := by
  unfold pT
  rw [setI_row _ _ _ _ (by omega), setI_row _ _ _ _ (by omega), setI_row _ _ _ _ (by omega), setI_1]
  simp only [true_and]
theorem pT_4 {S : mM} {q : Nat} {k s v : Int32} (j : Nat) : (pT S q k s v).1 4 j = if j = q then s else S.1 4 j := by
  unfold pT
  rw [setI_row _ _ _ _ (by omega), setI_row _ _ _ _ (by omega), setI_1, setI_row _ _ _ _ (by omega)]
  simp only [true_and]
theorem pT_5 {S : mM} {q : Nat} {k s v : Int32} (j : Nat) : (pT S q k s v).1 5 j = if j = q then v else S.1 5 j := by
  unfold pT
  rw [setI_row _ _ _ _ (by omega), setI_1, setI_row _ _ _ _ (by omega), setI_row _ _ _ _ (by omega)]
  simp only [true_and]
/-! the class's words -/
theorem spells_loop {S : mM} {i L w : Nat} (hw : w < 9) (hL : L = mSL.getD w 0) (hi : i + L ≤ 200) : ∀ (m j fu : Nat), j + m = L → m < fu → f_X9_spells_27 fu (nI i) w (nI j) S = some (if ∀ k, k < L → j ≤ k → S.1 2 (i + k) = (mSB.getD w []).getD k 0 then 1 else 0, S)
  | 0, j, fu + 1, hm, _ => by
    unfold f_X9_spells_27
    simp only [bnd]
    rw [if_pos (show Int32.ofNat (mSL.getD w 0) ≤ nI j by rw [← hL]; exact nI_le (a := L) (by omega) (by omega)), if_pos (fun k h1 h2 => absurd h1 (by omega))]
  | m + 1, j, fu + 1, hm, hf => by
    unfold f_X9_spells_27
    simp only [bnd]
    rw [if_neg (show ¬ Int32.ofNat (mSL.getD w 0) ≤ nI j by rw [← hL]; exact nI_ge (b := L) (by omega) (by omega)), nI_add, if_pos (ix (show i + j < 200 by omega) (by omega)), if_pos (by rw [← hL]; exact ix (show j < L by omega) (by omega)), nI_clamp (by omega), nI_clamp (by omega), nI_1, spells_loop hw hL hi m (j + 1) fu (by omega) (by omega)]
    by_cases e : S.1 2 (i + j) = (mSB.getD w []).getD j 0
    · rw [if_pos e]
      by_cases a : ∀ k, k < L → j + 1 ≤ k → S.1 2 (i + k) = (mSB.getD w []).getD k 0
      · rw [if_pos a, if_pos (fun k h1 h2 => by
          by_cases c : k = j
          · rw [c]
            exact e
          · exact a k h1 (by omega))]
      · rw [if_neg a, if_neg (fun z => a (fun k h1 h2 => z k h1 (by omega)))]
    · rw [if_neg e, if_neg (fun z => e (z j (by omega) (Nat.le_refl j)))]
theorem mSL_6 : ∀ w, w < 9 → mSL.getD w 0 ≤ 6 := by decide
theorem spells_eq {S : mM} {i e w n : Nat} (hw : w < 9) (h1 : S.1 1 1 = nI n) (hn : n ≤ 200) (hie : i ≤ e) (hen : e ≤ n) : f_X9_spells (nI i) (nI e) w S = some (if mt (S.1 2) (e - i) i w = true then 1 else 0, S) := by
  unfold f_X9_spells
  simp only [bnd]
  rw [if_neg (nI_pos (by omega)), h1, if_neg (nI_nlt hen (by omega)), nI_sub hie]
  by_cases hL : e - i = mSL.getD w 0
  · rw [if_pos (show nI (e - i) = Int32.ofNat (mSL.getD w 0) by rw [hL]; rfl)]
    have k := spells_loop (S := S) (i := i) hw hL (by omega) (e - i) 0 mFuel (by omega) (by unfold mFuel; omega)
    have k : f_X9_spells_27 mFuel (nI i) w 0 S = _ := k
    rw [k]
    by_cases a : ∀ k, k < e - i → 0 ≤ k → S.1 2 (i + k) = (mSB.getD w []).getD k 0
    · rw [if_pos a, if_pos (show mt (S.1 2) (e - i) i w = true from decide_eq_true ⟨hL, fun j hj => a j (by omega) (by omega)⟩)]
    · rw [if_neg a, if_neg (fun z => a (fun k h1 _ => (of_decide_eq_true z).2 k (by omega)))]
  · rw [if_neg (show ¬ nI (e - i) = Int32.ofNat (mSL.getD w 0) from fun z => hL ((nI_eq (by omega) (by have := mSL_6 w hw; omega)).mp z)), if_neg (fun z => hL (of_decide_eq_true z).1)]
theorem wordOf_eq {S : mM} {i e n : Nat} (h1 : S.1 1 1 = nI n) (hn : n ≤ 200) (hie : i ≤ e) (hen : e ≤ n) : f_X9_wordOf (nI i) (nI e) S = some (wo (S.1 2) (e - i) i, S) := by
  unfold f_X9_wordOf wo
  have sp : ∀ w, w < 9 → f_X9_spells (nI i) (nI e) w S = some (if mt (S.1 2) (e - i) i w = true then 1 else 0, S) := fun w hw => spells_eq hw h1 hn hie hen
  simp only [sp 0 (by omega), sp 1 (by omega), sp 2 (by omega), sp 3 (by omega), sp 4 (by omega), sp 5 (by omega), sp 6 (by omega), sp 7 (by omega), sp 8 (by omega), mBind_of, b01]
  by_cases c0 : mt (S.1 2) (e - i) i 0 = true
  · simp only [if_nn c0, if_pos c0]
  by_cases c1 : mt (S.1 2) (e - i) i 1 = true
  · simp only [if_pos c0, if_neg c0, if_nn c1, if_pos c1]
  by_cases c2 : mt (S.1 2) (e - i) i 2 = true
  · simp only [if_pos c0, if_neg c0, if_pos c1, if_neg c1, if_nn c2, if_pos c2]
  by_cases c3 : mt (S.1 2) (e - i) i 3 = true
  · simp only [if_pos c0, if_neg c0, if_pos c1, if_neg c1, if_pos c2, if_neg c2, if_nn c3, if_pos c3]
  by_cases c4 : mt (S.1 2) (e - i) i 4 = true
  · simp only [if_pos c0, if_neg c0, if_pos c1, if_neg c1, if_pos c2, if_neg c2, if_pos c3, if_neg c3, if_nn c4, if_pos c4]
  by_cases c5 : mt (S.1 2) (e - i) i 5 = true
  · simp only [if_pos c0, if_neg c0, if_pos c1, if_neg c1, if_pos c2, if_neg c2, if_pos c3, if_neg c3, if_pos c4, if_neg c4, if_nn c5, if_pos c5]
  by_cases c6 : mt (S.1 2) (e - i) i 6 = true
  · simp only [if_pos c0, if_neg c0, if_pos c1, if_neg c1, if_pos c2, if_neg c2, if_pos c3, if_neg c3, if_pos c4, if_neg c4, if_pos c5, if_neg c5, if_nn c6, if_pos c6]
  by_cases c7 : mt (S.1 2) (e - i) i 7 = true
  · simp only [if_pos c0, if_neg c0, if_pos c1, if_neg c1, if_pos c2, if_neg c2, if_pos c3, if_neg c3, if_pos c4, if_neg c4, if_pos c5, if_neg c5, if_pos c6, if_neg c6, if_nn c7, if_pos c7]
  by_cases c8 : mt (S.1 2) (e - i) i 8 = true
  · simp only [if_pos c0, if_neg c0, if_pos c1, if_neg c1, if_pos c2, if_neg c2, if_pos c3, if_neg c3, if_pos c4, if_neg c4, if_pos c5, if_neg c5, if_pos c6, if_neg c6, if_pos c7, if_neg c7, if_nn c8, if_pos c8]
  · simp only [if_pos c0, if_neg c0, if_pos c1, if_neg c1, if_pos c2, if_neg c2, if_pos c3, if_neg c3, if_pos c4, if_neg c4, if_pos c5, if_neg c5, if_pos c6, if_neg c6, if_pos c7, if_neg c7, if_pos c8, if_neg c8]
/-! the class's tokens -/
theorem word_loop {S : mM} {n : Nat} (h1 : S.1 1 1 = nI n) (hn : n ≤ 200) (y : Int32) : ∀ (m i fu : Nat), n - i = m → i ≤ n → m < fu → f_X9_addWord_2 fu y (nI i) S = f_X9_addWord_32 y (nI (rn (isLt (S.1 2)) m i)) S
  | 0, i, fu + 1, hm, hi, _ => by
    unfold f_X9_addWord_2
    rw [h1, if_pos (nI_le (by omega) (by omega))]
    rfl
  | m + 1, i, fu + 1, hm, hi, hf => by
    unfold f_X9_addWord_2
    rw [h1, if_neg (nI_ge (by omega) (by omega)), if_pos (ix (show i < 200 by omega) (by omega)), nI_clamp (by omega), isIn_eq, mBind_of]
    by_cases e : 97 ≤ S.1 2 i ∧ S.1 2 i ≤ 122
    · rw [if_neg (fun z => b01.mp z e), rn_t (show isLt (S.1 2) i = true from decide_eq_true e)]
      simp only [bnd, nI_1]
      exact word_loop h1 hn y m (i + 1) fu (by omega) (by omega) (by omega)
    · rw [if_pos (b01.mpr e), rn_f (fun z => e (of_decide_eq_true z))]
theorem num_loop {S : mM} {n : Nat} (h1 : S.1 1 1 = nI n) (hn : n ≤ 200) (y z f : Int32) : ∀ (m i fu : Nat) (acc : Int32), n - i = m → i ≤ n → m < fu → f_X9_addNumber_35 fu y z f (nI i) acc S = f_X9_addNumber_85 y z f (nI (rn (isDg (S.1 2)) m i)) (dv (S.1 2) acc i (rn (isDg (S.1 2)) m i - i)) S
  | 0, i, fu + 1, acc, hm, hi, _ => by
    unfold f_X9_addNumber_35
    rw [h1, if_pos (nI_le (by omega) (by omega)), show rn (isDg (S.1 2)) 0 i = i from rfl, Nat.sub_self]
    rfl
  | m + 1, i, fu + 1, acc, hm, hi, hf => by
    unfold f_X9_addNumber_35
    rw [h1, if_neg (nI_ge (by omega) (by omega)), if_pos (ix (show i < 200 by omega) (by omega)), nI_clamp (by omega), isIn_eq, mBind_of]
    by_cases e : 48 ≤ S.1 2 i ∧ S.1 2 i ≤ 57
    · rw [if_neg (fun z => b01.mp z e), rn_t (show isDg (S.1 2) i = true from decide_eq_true e), if_pos (ixc (show i < 200 by omega) (by omega))]
      simp only [bnd, nI_1]
      rw [num_loop h1 hn y z f m (i + 1) fu _ (by omega) (by omega) (by omega)]
      have hg := rn_ge (isDg (S.1 2)) m (i + 1)
      rw [show rn (isDg (S.1 2)) m (i + 1) - i = rn (isDg (S.1 2)) m (i + 1) - (i + 1) + 1 by omega]
      rfl
    · rw [if_pos (b01.mpr e), rn_f (fun z => e (of_decide_eq_true z)), Nat.sub_self]
      rfl
theorem in13N {a : Nat} (h : a < 2 ^ 31) : (1 ≤ nI a ∧ nI a ≤ 3) ↔ (1 ≤ a ∧ a ≤ 3) := by
  rw [show (1 : Int32) = nI 1 from rfl, show (3 : Int32) = nI 3 from rfl, nI_leI (by omega) h, nI_leI h (by omega)]
theorem addToken_eq {S : mM} {n i q : Nat} (h1 : S.1 1 1 = nI n) (hn : n ≤ 200) (hi : i < n) (hq : q < 201) (h5 : S.1 1 5 = nI q) : f_X9_addToken (nI i) S = some (nI (tE (S.1 2) n i), pT S q (tK (S.1 2) n i) (nI i) (tV (S.1 2) n i)) := by
  unfold f_X9_addToken
  rw [if_pos (ix (show i < 200 by omega) (by omega)), nI_clamp (by omega)]
  simp only [bnd]
  have nle : ¬ n ≤ i := by omega
  by_cases c1 : S.1 2 i = 42
  · rw [if_pos c1]
    unfold f_X9_addToken_19 tE tK tV
    rw [if_pos c1, put_tok hq h5, mBind_of, nI_1, if_pos c1, if_neg nle, if_pos c1, if_neg nle, if_pos c1]
  · rw [if_neg c1]
    by_cases c2 : S.1 2 i = 59
    · rw [if_pos c2]
      unfold f_X9_addToken_19 tE tK tV
      rw [if_neg c1, put_tok hq h5, mBind_of, nI_1, if_neg c1, if_pos c2, if_neg nle, if_neg c1, if_pos c2, if_neg nle, if_neg c1, if_pos c2]
    · rw [if_neg c2, isIn_eq, mBind_of]
      by_cases c3 : 97 ≤ S.1 2 i ∧ S.1 2 i ≤ 122
      · have c3' : isLt (S.1 2) i = true := decide_eq_true c3
        rw [if_neg (fun z => b01.mp z c3)]
        unfold f_X9_addWord
        rw [word_loop h1 hn (nI i) (n - i) i mFuel rfl (by omega) (by unfold mFuel; omega)]
        have hb := wE_b (B := S.1 2) (show i ≤ n by omega)
        unfold f_X9_addWord_32
        rw [wordOf_eq h1 hn (show i ≤ rn (isLt (S.1 2)) (n - i) i from hb.1) hb.2, mBind_of]
        unfold tE tK tV
        rw [if_neg c1, if_neg c2, if_pos c3', if_neg nle, if_neg c1, if_neg c2, if_pos c3', if_neg nle, if_neg c1, if_neg c2, if_pos c3']
        unfold wE
        by_cases c4 : wo (S.1 2) (rn (isLt (S.1 2)) (n - i) i - i) i = 9
        · rw [if_pos c4, if_pos c4, put_tok hq h5, mBind_of, mBind_of]
        · rw [if_neg c4, if_neg c4, put_tok hq h5, mBind_of, mBind_of]
      · have c3' : ¬ isLt (S.1 2) i = true := fun z => c3 (of_decide_eq_true z)
        rw [if_pos (b01.mpr c3)]
        unfold f_X9_addNumber f_X9_addNumber_16
        rw [if_pos (ix (show i < 200 by omega) (by omega)), nI_clamp (by omega)]
        have hb := nE_b (B := S.1 2) hi
        have hf := fg_b (S.1 2) i
        have h85 : ∀ z : Int32, (z = if S.1 2 i = 45 then 1 else 0) → f_X9_addNumber_85 (nI i) z (nI (fg (S.1 2) i)) (nI (nE (S.1 2) n i)) (dv (S.1 2) 0 (fg (S.1 2) i) (nE (S.1 2) n i - fg (S.1 2) i)) S = some (nI (tE (S.1 2) n i), pT S q (tK (S.1 2) n i) (nI i) (tV (S.1 2) n i)) := fun z hz => by
          unfold f_X9_addNumber_85 f_X9_addNumber_107 tE tK tV
          rw [nI_sub hb.1, isIn_eq, mBind_of, if_neg c1, if_neg c2, if_neg c3', if_neg nle, if_neg c1, if_neg c2, if_neg c3', if_neg nle, if_neg c1, if_neg c2, if_neg c3']
          simp only [in13N (show nE (S.1 2) n i - fg (S.1 2) i < 2 ^ 31 by omega), b01]
          by_cases c5 : 1 ≤ nE (S.1 2) n i - fg (S.1 2) i ∧ nE (S.1 2) n i - fg (S.1 2) i ≤ 3
          · rw [if_nn c5, if_pos c5]
            by_cases c6 : S.1 2 i = 45
            · rw [if_pos c6] at hz
              rw [hz, if_neg (by decide), if_pos c6, put_tok hq h5, mBind_of]
            · rw [if_neg c6] at hz
              rw [hz, if_pos rfl, if_neg c6, put_tok hq h5, mBind_of]
          · rw [if_pos c5, if_neg c5]
            by_cases c6 : S.1 2 i = 45
            · rw [if_pos c6] at hz
              rw [hz, if_neg (by decide), if_pos c6, put_tok hq h5, mBind_of]
            · rw [if_neg c6] at hz
              rw [hz, if_pos rfl, if_neg c6, put_tok hq h5, mBind_of]
        by_cases c6 : S.1 2 i = 45
        · rw [if_pos c6, if_neg (by decide)]
          simp only [bnd, nI_1]
          have k := num_loop h1 hn (nI i) 1 (nI (i + 1)) (n - (i + 1)) (i + 1) mFuel 0 rfl (by omega) (by unfold mFuel; omega)
          have e1 : fg (S.1 2) i = i + 1 := if_pos c6
          have e2 := h85 1 (if_pos c6).symm
          unfold nE at e2
          rw [e1] at e2
          rw [k, e2, mBind_of]
        · rw [if_neg c6, if_pos rfl]
          have k := num_loop h1 hn (nI i) 0 (nI i) (n - i) i mFuel 0 rfl (by omega) (by unfold mFuel; omega)
          have e1 : fg (S.1 2) i = i := if_neg c6
          have e2 := h85 0 (if_neg c6).symm
          unfold nE at e2
          rw [e1] at e2
          rw [k, e2, mBind_of]
/-! the class's split -/
def TKs (S : mM) (B : Nat → Int32) (n q : Nat) : Prop := S.1 1 1 = nI n ∧ S.1 2 = B ∧ S.1 1 5 = nI q ∧ ∀ k, k < q → S.1 3 k = tK B n (tS B n k) ∧ S.1 4 k = nI (tS B n k) ∧ S.1 5 k = tV B n (tS B n k)
theorem max_eq {a b : Nat} (ha : a < 2 ^ 31) (hb : b < 2 ^ 31) (S : mM) : f_J9_max_7cf53 (nI a) (nI b) S = some (nI (max a b), S) := by
  unfold f_J9_max_7cf53
  by_cases h : a < b
  · rw [if_pos (nI_lt h hb), show max a b = b by omega]
  · rw [if_neg (nI_nlt (by omega) ha), show max a b = a by omega]
theorem split_loop {B : Nat → Int32} {n : Nat} (hn : n ≤ 200) : ∀ (m i fu q : Nat) (S : mM), n ≤ i + m → i ≤ n → q ≤ i → m < fu → TKs S B n q → (∀ k, k < q → tS B n k < n) → sk B n i = tS B n q →
    ∃ S' K, f_X9_split_7 fu (nI i) S = some ((), S') ∧ K ≤ n ∧ TKs S' B n (K + 1) ∧ tS B n K = n ∧ (∀ k, k < K → tS B n k < n) ∧ (∀ b, b ≠ 1 → b ≠ 3 → b ≠ 4 → b ≠ 5 → S'.1 b = S.1 b) ∧ (∀ j, j ≠ 5 → S'.1 1 j = S.1 1 j) ∧ S'.2 = S.2 := by
  have fin : ∀ (i fu q : Nat) (S : mM), i = n → q ≤ i → TKs S B n q → (∀ k, k < q → tS B n k < n) → sk B n i = tS B n q → ∃ S' K, f_X9_split_7 (fu + 1) (nI i) S = some ((), S') ∧ K ≤ n ∧ TKs S' B n (K + 1) ∧ tS B n K = n ∧ (∀ k, k < K → tS B n k < n) ∧ (∀ b, b ≠ 1 → b ≠ 3 → b ≠ 4 → b ≠ 5 → S'.1 b = S.1 b) ∧ (∀ j, j ≠ 5 → S'.1 1 j = S.1 1 j) ∧ S'.2 = S.2 := fun i fu q S hi hq h hk hs => by
    have hS : tS B n q = n := by rw [← hs, sk_end (by omega)]; exact hi
    refine ⟨pT S q 0 (nI n) 0, q, ?_, by omega, ⟨by rw [pT_1 (by omega)]; exact h.1, by rw [pT_row (by omega) (by omega) (by omega) (by omega)]; exact h.2.1, pT_15, fun k hk' => ?_⟩, hS, hk, fun b q1 q2 q3 q4 => pT_row q1 q2 q3 q4, fun j hj => pT_1 hj, rfl⟩
    · unfold f_X9_split_7
      rw [h.1, if_pos (nI_le (by omega) (by omega)), put_tok (by omega) h.2.2.1, mBind_of]
    · rw [pT_3, pT_4, pT_5]
      by_cases e : k = q
      · rw [if_pos e, if_pos e, if_pos e, e, hS]
        refine ⟨(if_pos (Nat.le_refl n)).symm, rfl, (if_pos (Nat.le_refl n)).symm⟩
      · rw [if_neg e, if_neg e, if_neg e]
        exact h.2.2.2 k (by omega)
  intro m
  induction m with
  | zero =>
    intro i fu q S hm hi hq hf h hk hs
    obtain ⟨fu, rfl⟩ : ∃ g, fu = g + 1 := ⟨fu - 1, by omega⟩
    exact fin i fu q S (by omega) hq h hk hs
  | succ m ih =>
    intro i fu q S hm hi hq hf h hk hs
    obtain ⟨fu, rfl⟩ : ∃ g, fu = g + 1 := ⟨fu - 1, by omega⟩
    by_cases hin : i = n
    · exact fin i fu q S hin hq h hk hs
    · have hlt : i < n := by omega
      unfold f_X9_split_7 f_X9_split_35
      rw [h.1, if_neg (nI_ge hlt (by omega)), if_pos (ix (show i < 200 by omega) (by omega)), nI_clamp (by omega), nI_1, h.2.1]
      by_cases e : B i = 32
      · rw [if_pos e, max_eq (by omega) (by omega), mBind_of, show max i (i + 1) = i + 1 by omega]
        exact ih (i + 1) fu q S (by omega) (by omega) (by omega) (by omega) h hk (by rw [← sk_sp hlt e]; exact hs)
      · have hS : tS B n q = i := by rw [← hs, sk_no e]
        have hb := tE_b (B := B) hlt
        rw [if_neg e, addToken_eq h.1 hn hlt (by omega) h.2.2.1, mBind_of, h.2.1, max_eq (by omega) (by omega), mBind_of]
        have hP : tP B n (q + 1) = max (tE B n i) (i + 1) := by
          show max (tE B n (sk B n (tP B n q))) (sk B n (tP B n q) + 1) = _
          rw [show sk B n (tP B n q) = i from hS]
        obtain ⟨S', K, k1, k2, k3, k4, k5, k6, k7, k8⟩ := ih (max (tE B n i) (i + 1)) fu (q + 1) (pT S q (tK B n i) (nI i) (tV B n i)) (by omega) (by omega) (by omega) (by omega) ⟨by rw [pT_1 (by omega)]; exact h.1, by rw [pT_row (by omega) (by omega) (by omega) (by omega)]; exact h.2.1, pT_15, fun k hk' => by
            rw [pT_3, pT_4, pT_5]
            by_cases e : k = q
            · rw [if_pos e, if_pos e, if_pos e, e, hS]
              exact ⟨rfl, rfl, rfl⟩
            · rw [if_neg e, if_neg e, if_neg e]
              exact h.2.2.2 k (by omega)⟩ (fun k hk' => by
            by_cases e : k = q
            · rw [e, hS]
              exact hlt
            · exact hk k (by omega)) (by unfold tS; rw [hP])
        exact ⟨S', K, k1, k2, k3, k4, k5, fun b q1 q2 q3 q4 => by rw [k6 b q1 q2 q3 q4, pT_row q1 q2 q3 q4], fun j hj => by rw [k7 j hj, pT_1 hj], by rw [k8]; rfl⟩
