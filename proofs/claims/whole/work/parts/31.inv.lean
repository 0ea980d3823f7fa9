/-! PURE: what holds between the class's memory and the reference's, call by call -/
/-- the number of trace t in a sample -/
def nb (t x : Int32) : Int32 := (x >>> (((24 : Int32) - ((8 : Int32) * t)) &&& 31)).toInt8.toInt32
/-- how long the high is that reaches up to place N, if it began (with a rise) behind place f -/
def hiN (v : Nat → Int32) (a : Int32) (f : Nat) : Nat → Nat
  | 0 => 0
  | N + 1 => if N ≤ f then 0 else if v N < a then 0 else if v (N - 1) < a then 1 else if hiN v a f N = 0 then 0 else hiN v a f N + 1
/-- the tape -/
def iTp (S : mM) : Prop := ∃ n, n ≤ 200 ∧ S.1 1 1 = nI n ∧ S.1 69 1 = nI n ∧ ∀ k, k < n → S.1 70 k = S.1 2 k &&& 255 ∧ (S.1 2 k).toInt8.toInt32 = S.1 2 k
/-- one stage i of the plan p beside the reference's -/
def iSt (S : mM) (p i : Nat) : Prop :=
  (∃ e, e ≤ 7 ∧ S.1 (p + 2 + i) 0 = nI e) ∧ S.1 73 i = S.1 (p + 2 + i) 0 ∧
  (∃ t, 1 ≤ t ∧ t ≤ 20 ∧ S.1 (p + 2 + i) 1 = nI t) ∧ S.1 72 i = S.1 (p + 2 + i) 1 ∧
  (∃ t, t ≤ 200 ∧ S.1 (p + 2 + i) 2 = nI t) ∧ S.1 77 i = S.1 (p + 2 + i) 2 ∧
  (∃ t, t ≤ 3 ∧ S.1 (p + 2 + i) 3 = nI t) ∧ S.1 74 i = S.1 (p + 2 + i) 3 ∧
  S.1 75 i = S.1 (p + 2 + i) 5 ∧ S.1 75 i = S.1 (p + 2 + i) 4 ∧
  (S.1 (p + 2 + i) 0 = 7 → ∃ t, t ≤ 3 ∧ S.1 (p + 2 + i) 4 = nI t) ∧
  (S.1 (p + 2 + i) 0 = 2 ∨ S.1 (p + 2 + i) 0 = 3 → (∃ t, 1 ≤ t ∧ t ≤ 200 ∧ S.1 (p + 2 + i) 7 = nI t) ∧ S.1 76 i = S.1 (p + 2 + i) 7) ∧
  (S.1 (p + 2 + i) 0 = 4 ∨ S.1 (p + 2 + i) 0 = 5 ∨ S.1 (p + 2 + i) 0 = 6 → S.1 76 i = S.1 (p + 2 + i) 6)
/-- the highs of stage i while it is armed: from place f on, up to place N -/
def iHi (S : mM) (p i f N : Nat) : Prop :=
  S.1 (p + 2 + i) 8 = nI (hiN (fun k => nb (S.1 (p + 2 + i) 3) (S.1 71 k)) (S.1 (p + 2 + i) 5) f N) ∧
  (0 < hiN (fun k => nb (S.1 (p + 2 + i) 3) (S.1 71 k)) (S.1 (p + 2 + i) 5) f N → (S.1 (p + 2 + i) 9 = 0 ∨ S.1 (p + 2 + i) 9 = 1)) ∧
  (0 < hiN (fun k => nb (S.1 (p + 2 + i) 3) (S.1 71 k)) (S.1 (p + 2 + i) 5) f N →
    (S.1 (p + 2 + i) 9 = 1 ↔ ∃ k, N - hiN (fun k => nb (S.1 (p + 2 + i) 3) (S.1 71 k)) (S.1 (p + 2 + i) 5) f N ≤ k ∧ k < N ∧ S.1 (p + 2 + i) 6 ≤ nb (S.1 (p + 2 + i) 3) (S.1 71 k)))
/-- the instrument: its plan, its ring, its numbers (m: the most samples there may be) -/
def iEn (m : Nat) (S : mM) : Prop := ∃ p N cnt : Nat,
  ((p = 28 ∧ S.2.2 7 3 = 36) ∨ (p = 36 ∧ S.2.2 7 3 = 28)) ∧ S.2.2 7 2 = p ∧
  cnt ≤ 6 ∧ S.1 p 1 = nI cnt ∧ S.1 69 4 = nI cnt ∧ (∀ i, i < cnt → iSt S p i) ∧
  N ≤ m ∧ S.1 8 1 = nI N ∧ S.1 69 3 = nI N ∧ (∀ k, k < N → N ≤ k + 256 → S.1 9 (k % 256) = S.1 71 k) ∧
  (∃ b, b ≤ 100 ∧ S.1 7 4 = nI b ∧ S.1 69 26 = nI b) ∧ (∃ b, b ≤ 100 ∧ S.1 7 5 = nI b ∧ S.1 69 27 = nI b) ∧
  (∃ s, s ≤ 3 ∧ S.1 7 6 = nI s ∧ S.1 69 25 = nI s) ∧
  S.1 7 7 = S.1 69 28 ∧ S.1 7 8 = S.1 69 29 ∧ S.1 7 9 = S.1 69 30 ∧ S.1 7 10 = S.1 69 31 ∧ S.1 7 11 = S.1 69 32 ∧ S.1 7 12 = S.1 69 33 ∧
  (S.1 7 6 = 1 → ∃ f g h w, S.1 7 7 = nI f ∧ f ≤ N ∧ S.1 7 8 = nI g ∧ g < cnt ∧ S.1 7 9 = nI h ∧ nI h < S.1 (p + 2 + g) 1 ∧ h ≤ 20 ∧ S.1 7 10 = nI w ∧ f ≤ w ∧ w ≤ N ∧ (f < N → w < N) ∧ (S.1 (p + 2 + g) 2 = 0 ∨ nI N ≤ nI w + S.1 (p + 2 + g) 2) ∧ (∀ i, i < cnt → iHi S p i f N)) ∧
  (S.1 7 6 = 2 → ∃ f r, 0 < cnt ∧ S.1 7 7 = nI f ∧ f ≤ r ∧ S.1 7 12 = nI r ∧ r < N ∧ nI N ≤ nI r + S.1 7 5) ∧
  (∃ t, t ≤ m ∧ S.1 7 11 = nI t)
/-- the segments kept -/
def iSg (S : mM) : Prop := ∃ c, c ≤ 8 ∧ S.1 10 1 = nI c ∧ S.1 69 34 = nI c ∧ (S.1 7 6 = 1 ∨ S.1 7 6 = 2 → c ≤ 7) ∧
  ∀ k, k < c → S.1 (12 + 2 * k) 1 = S.1 84 k ∧ S.1 (12 + 2 * k) 2 = S.1 85 k ∧ S.1 (12 + 2 * k) 3 = S.1 86 k ∧
    ∃ n, 1 ≤ n ∧ n ≤ 201 ∧ S.1 85 k = nI n ∧ ∀ i, i < n → S.1 (13 + 2 * k) i = S.1 87 (201 * k + i)
/-- the sheets -/
def iSh (S : mM) : Prop := ∀ k, k < 4 → ∃ n, n ≤ 64 ∧ S.1 (45 + 2 * k) 2 = nI n ∧ S.1 89 k = nI n ∧
  ((S.1 (45 + 2 * k) 1 = -1 ∧ S.1 88 k = -4 ∧ n = 0) ∨ ∃ g, g ≤ 2 ∧ S.1 (45 + 2 * k) 1 = nI g ∧ S.1 88 k = nI g) ∧
  ∀ i, i < n → S.1 (46 + 2 * k) i = S.1 90 (64 * k + i)
/-- the rows -/
def iRw (S : mM) : Prop := ∀ r, r < 4 → ∃ n, n ≤ 201 ∧ S.1 (54 + 3 * r) 2 = nI n ∧ S.1 91 r = (if n = 0 then -4 else nI n) ∧
  ∀ i, i < n → S.2.1 (55 + 3 * r) i = S.2.1 92 (201 * r + i) ∧ S.1 (56 + 3 * r) i = S.1 93 (201 * r + i) ∧
    (S.1 93 (201 * r + i) = 0 ∨ (S.1 93 (201 * r + i) = 1 ∧ S.2.1 92 (201 * r + i) = 0))
/-- what the wires told -/
def iWr (S : mM) : Prop := S.1 66 3 = S.1 69 51 ∧ ∃ n, n ≤ 20 ∧ S.1 66 2 = nI n ∧ S.1 69 48 = nI n ∧ ∀ i, i < n → S.1 67 i = S.1 96 i ∧ S.1 68 i = S.1 97 i
def Inv (c : Nat) (S : mM) : Prop := iTp S ∧ S.1 6 3 = S.1 69 18 ∧ iEn (64 * c) S ∧ iSg S ∧ iSh S ∧ iRw S ∧ S.1 0 6 = S.1 69 42 ∧ iWr S
theorem iEn.mono {m m' : Nat} {S : mM} (h : m ≤ m') (k : iEn m S) : iEn m' S := by
  obtain ⟨p, N, cnt, h1, h2, h3, h4, h5, h6, h7, h8, h9, h10, h11, h12, h13, h14, h15, h16, h17, h18, h19, h20, h21, t, h22, h23⟩ := k
  exact ⟨p, N, cnt, h1, h2, h3, h4, h5, h6, Nat.le_trans h7 h, h8, h9, h10, h11, h12, h13, h14, h15, h16, h17, h18, h19, h20, h21, t, Nat.le_trans h22 h, h23⟩
theorem Inv.mono {c c' : Nat} {S : mM} (h : c ≤ c') (k : Inv c S) : Inv c' S := ⟨k.1, k.2.1, k.2.2.1.mono (Nat.mul_le_mul_left 64 h), k.2.2.2⟩
/-- class and reference agree at one call, and go on -/
def Ag (c : Nat) (fc fr : mM → Option (Int32 × mM)) : Prop := c < 512 → ∀ S, Inv c S → ∃ r S1 S2, fc S = some (r, S1) ∧ fr S1 = some (r, S2) ∧ Inv (c + 1) S2
def AgJ (c : Nat) (fc fr : mM → Option (Int64 × mM)) : Prop := c < 512 → ∀ S, Inv c S → ∃ r S1 S2, fc S = some (r, S1) ∧ fr S1 = some (r, S2) ∧ Inv (c + 1) S2
/-- a call that changes nothing -/
theorem Ag.read {c : Nat} {fc fr : mM → Option (Int32 × mM)} (h : ∀ S, Inv c S → ∃ r, fc S = some (r, S) ∧ fr S = some (r, S)) : Ag c fc fr := fun _ S k => by
  obtain ⟨r, h1, h2⟩ := h S k
  exact ⟨r, S, S, h1, h2, k.mono (Nat.le_succ c)⟩
theorem AgJ.read {c : Nat} {fc fr : mM → Option (Int64 × mM)} (h : ∀ S, Inv c S → ∃ r, fc S = some (r, S) ∧ fr S = some (r, S)) : AgJ c fc fr := fun _ S k => by
  obtain ⟨r, h1, h2⟩ := h S k
  exact ⟨r, S, S, h1, h2, k.mono (Nat.le_succ c)⟩
/-- the start -/
theorem Inv_0 : Inv 0 mS0 := by
  refine ⟨⟨0, by omega, rfl, rfl, fun k h => absurd h (by omega)⟩, rfl, ?_, ⟨0, by omega, rfl, rfl, fun _ => by omega, fun k h => absurd h (by omega)⟩, ?_, ?_, rfl, rfl, 0, by omega, rfl, rfl, fun k h => absurd h (by omega)⟩
  · refine ⟨28, 0, 0, Or.inl ⟨rfl, rfl⟩, rfl, by omega, rfl, rfl, fun i h => absurd h (by omega), by omega, rfl, rfl, fun k h => absurd h (by omega), ⟨8, by omega, rfl, rfl⟩, ⟨8, by omega, rfl, rfl⟩, ⟨0, by omega, rfl, rfl⟩, rfl, rfl, rfl, rfl, rfl, rfl, fun h => ?_, fun h => ?_, 0, by omega, rfl⟩
    · exact absurd h (by decide)
    · exact absurd h (by decide)
  · intro k hk
    refine ⟨0, by omega, ?_, ?_, Or.inl ⟨?_, ?_, rfl⟩, fun k h => absurd h (by omega)⟩ <;> (rcases (show k = 0 ∨ k = 1 ∨ k = 2 ∨ k = 3 by omega) with rfl | rfl | rfl | rfl <;> rfl)
  · intro k hk
    refine ⟨0, by omega, ?_, ?_, fun k h => absurd h (by omega)⟩ <;> (rcases (show k = 0 ∨ k = 1 ∨ k = 2 ∨ k = 3 by omega) with rfl | rfl | rfl | rfl <;> rfl)
