/-! PURE: trigger: the reader's steps -/
def kd (B : Nat → Int32) (n k : Nat) : Int32 := tK B n (tS B n k)
def vl (B : Nat → Int32) (n k : Nat) : Int32 := tV B n (tS B n k)
def CE (S : mM) (B : Nat → Int32) (n K : Nat) : Prop := TKs S B n (K + 1) ∧ K ≤ n ∧ n ≤ 200 ∧ tS B n K = n ∧ ∀ k, k < K → tS B n k < n
theorem CE.fr {S S' : mM} {B : Nat → Int32} {n K : Nat} (h : CE S B n K) (hr : ∀ b, 1 ≤ b → b ≤ 5 → S'.1 b = S.1 b) : CE S' B n K := by
  obtain ⟨⟨h1, h2, h3, h4⟩, h5⟩ := h
  refine ⟨⟨by rw [hr 1 (by omega) (by omega)]; exact h1, by rw [hr 2 (by omega) (by omega)]; exact h2, by rw [hr 1 (by omega) (by omega)]; exact h3, fun k hk => ?_⟩, h5⟩
  rw [hr 3 (by omega) (by omega), hr 4 (by omega) (by omega), hr 5 (by omega) (by omega)]
  exact h4 k hk
theorem tK_c (B : Nat → Int32) (n i : Nat) : tK B n i = 0 ∨ tK B n i = 1 ∨ tK B n i = 2 ∨ tK B n i = 3 ∨ tK B n i = 4 ∨ tK B n i = 5 := by
  unfold tK
  split
  · exact Or.inl rfl
  · split
    · exact Or.inr (Or.inr (Or.inr (Or.inl rfl)))
    · split
      · exact Or.inr (Or.inr (Or.inr (Or.inr (Or.inl rfl))))
      · split
        · split
          · exact Or.inr (Or.inr (Or.inr (Or.inr (Or.inr rfl))))
          · exact Or.inr (Or.inl rfl)
        · split
          · exact Or.inr (Or.inr (Or.inl rfl))
          · exact Or.inr (Or.inr (Or.inr (Or.inr (Or.inr rfl))))
theorem tK_0 {B : Nat → Int32} {n i : Nat} (h : i < n) : ¬ tK B n i = 0 := by
  unfold tK
  rw [if_neg (by omega)]
  split
  · decide
  · split
    · decide
    · split
      · split <;> decide
      · split <;> decide
theorem kd_lt {S : mM} {B : Nat → Int32} {n K k : Nat} (h : CE S B n K) (hk : k ≤ K) (h0 : ¬ kd B n k = 0) : k < K := by
  by_cases e : k = K
  · exfalso
    apply h0
    unfold kd
    rw [e, h.2.2.2.1]
    exact if_pos (Nat.le_refl n)
  · omega
/-- class and reference stand at token k -/
def At (S T : mM) (B : Nat → Int32) (n K k : Nat) : Prop := (S.1 6 1 = nI k ∧ S.1 6 3 = 0) ∧ k ≤ K ∧ Nx T B n (tS B n k) ∧ bE T B n
def c6 (S S' : mM) : Prop := (∀ b, b ≠ 6 → S'.1 b = S.1 b) ∧ S'.2 = S.2
theorem c6.ce {S S' : mM} {B : Nat → Int32} {n K : Nat} (h : c6 S S') (e : CE S B n K) : CE S' B n K := e.fr (fun b _ _ => h.1 b (by omega))
def cFl (S : mM) (e q : Nat) : Prop := S.1 6 3 = nI e ∧ S.1 6 4 = nI q
def Dd (T : mM) (e q : Nat) : Prop := T.1 69 18 = nI e ∧ T.1 69 19 = nI q
theorem sees_eq {S : mM} {B : Nat → Int32} {n K k : Nat} (h : CE S B n K) (h1 : S.1 6 1 = nI k) (hk : k ≤ K) (p : Int32) : f_X1_sees p S = some (if kd B n k = p then 1 else 0, S) := by
  have := h.2.1
  have := h.2.2.1
  unfold f_X1_sees
  rw [h.1.2.2.1, h1, if_neg (nI_ge (by omega) (by omega)), if_pos (ix (show k < 201 by omega) (by omega)), nI_clamp (by omega), (h.1.2.2.2 k (by omega)).1]
  unfold kd
  by_cases e : tK B n (tS B n k) = p
  · rw [if_pos e, if_pos e]
  · rw [if_neg e, if_neg e]
theorem seesW_eq {S : mM} {B : Nat → Int32} {n K k : Nat} (h : CE S B n K) (h1 : S.1 6 1 = nI k) (hk : k ≤ K) : f_X1_seesWithin S = some (if kd B n k = 1 ∧ vl B n k = 8 then 1 else 0, S) := by
  have := h.2.1
  have := h.2.2.1
  unfold f_X1_seesWithin
  rw [sees_eq h h1 hk, mBind_of]
  by_cases e : kd B n k = 1
  · rw [if_pos e, if_neg (by decide), h1, if_pos (ix (show k < 201 by omega) (by omega)), nI_clamp (by omega), (h.1.2.2.2 k (by omega)).2.2]
    by_cases q : vl B n k = 8
    · rw [if_pos (show tV B n (tS B n k) = 8 from q), if_pos ⟨e, q⟩]
    · rw [if_neg (show ¬ tV B n (tS B n k) = 8 from q), if_neg (fun z => q z.2)]
  · rw [if_neg e, if_pos rfl, if_neg (fun z => e z.1)]
theorem refuse_eq {S : mM} {B : Nat → Int32} {n K k e : Nat} (h : CE S B n K) (h1 : S.1 6 1 = nI k) (hk : k ≤ K) : ∃ S', f_X1_refuse (nI e) S = some (0, S') ∧ c6 S S' ∧ cFl S' (if kd B n k = 5 then 1 else e) (tS B n k) := by
  have := h.2.1
  have := h.2.2.1
  have g1 : (setI S 6 3 (nI e)).1 6 1 = nI k := by rw [setI_slot _ _ _ _ (by omega)]; exact h1
  have g15 : (setI S 6 3 (nI e)).1 1 5 = nI (K + 1) := by rw [setI_row _ _ _ _ (by omega)]; exact h.1.2.2.1
  have g2 : (setI (setI S 6 3 (nI e)) 6 4 (nI (tS B n k))).1 6 1 = nI k := by rw [setI_slot _ _ _ _ (by omega)]; exact g1
  have k2 : 0 ≤ nI k ∧ (nI k).toNatClampNeg < 201 := ix (by omega) (by omega)
  have k2c : 0 ≤ nI k ∧ k < 201 := ixc (by omega) (by omega)
  have ck : (nI k).toNatClampNeg = k := nI_clamp (by omega)
  have f1 : c6 S (setI (setI S 6 3 (nI e)) 6 4 (nI (tS B n k))) := ⟨fun b q => by rw [setI_row _ _ _ _ q, setI_row _ _ _ _ q], rfl⟩
  unfold f_X1_refuse
  simp only [bnd]
  rw [g15, g1, if_neg (nI_ge (by omega) (by omega)), if_pos k2, ck, setI_row S _ _ _ (show 4 ≠ 6 by omega), (h.1.2.2.2 k (by omega)).2.1, g2, if_pos k2, ck, setI_row _ _ _ _ (show 3 ≠ 6 by omega), setI_row _ _ _ _ (show 3 ≠ 6 by omega), (h.1.2.2.2 k (by omega)).1]
  by_cases q : kd B n k = 5
  · rw [if_pos (show tK B n (tS B n k) = 5 from q), if_pos q]
    exact ⟨_, rfl, ⟨fun b z => by rw [setI_row _ _ _ _ z, f1.1 b z], rfl⟩, setI_same _ _ _ _, by rw [setI_slot _ _ _ _ (by omega), setI_same]⟩
  · rw [if_neg (show ¬ tK B n (tS B n k) = 5 from q), if_neg q]
    exact ⟨_, rfl, f1, by rw [setI_slot _ _ _ _ (by omega), setI_same], setI_same _ _ _ _⟩
theorem or01 (r : Int32) (h : r = 0 ∨ r = 1) {α : Type} (a b : α) : (if r = 0 ∨ r = 1 then a else b) = a := if_pos h
/-- the reference goes one token on -/
theorem adv {S T : mM} {B : Nat → Int32} {n K k : Nat} (h : CE S B n K) (hk : k < K) (e : bE T B n) (hN : Nx T B n (tS B n k)) (h5 : ¬ kd B n k = 5) : ∃ T', f_X12_next T = some ((), T') ∧ nF T T' ∧ Nx T' B n (tS B n (k + 1)) := by
  rcases hN with z | ⟨-, z1, -, z2, -⟩
  · exact absurd z.1 h5
  · have hs := h.2.2.2.2 k hk
    have hb := tE_b (B := B) hs
    have hP : tP B n (k + 1) = max (tE B n (tS B n k)) (tS B n k + 1) := rfl
    exact next_ok e (show T.1 69 20 = nI (tP B n (k + 1)) by rw [hP]; exact z2 hs) (by rw [hP]; omega) z1
theorem taken_dead {T : mM} {e q : Nat} {lo hi : Int32} (h : Dd T e q) (h1 : 1 ≤ e) (h5 : e ≤ 5) : f_X12_taken lo hi T = some (T.1 69 23, T) := by
  have ne : ¬ T.1 69 18 = 0 := by rw [h.1]; exact nI_ne0 (by omega) (by omega)
  unfold f_X12_taken f_X12_taken_24 f_X12_taken_55
  rw [if_neg ne, if_neg ne]
  simp only [bnd]
  rw [if_neg ne]
/-- a number wanted, above ab (the reference has refused what lies at or below it) -/
theorem tn_ag {S T : mM} {B : Nat → Int32} {n K k : Nat} {lo hi ab : Int32} (h : CE S B n K) (hA : At S T B n K k) (hab : (¬ kd B n k = 2) ∨ ab < vl B n k ∨ ¬ (lo ≤ vl B n k ∧ vl B n k ≤ hi)) :
    (∃ S' T' v, f_X1_takeNumber lo hi ab S = some (1, S') ∧ f_X12_taken lo hi T = some (v, T') ∧ lo ≤ v ∧ v ≤ hi ∧ S'.1 6 2 = v ∧ c6 S S' ∧ nF T T' ∧ At S' T' B n K (k + 1) ∧ v = vl B n k ∧ kd B n k = 2) ∨
    (∃ S' T' x e q, f_X1_takeNumber lo hi ab S = some (0, S') ∧ f_X12_taken lo hi T = some (x, T') ∧ 1 ≤ e ∧ e ≤ 5 ∧ cFl S' e q ∧ Dd T' e q ∧ c6 S S' ∧ nF T T') := by
  obtain ⟨⟨a1, a0⟩, a2, a3, a4⟩ := hA
  have := h.2.1
  have := h.2.2.1
  have k2 : 0 ≤ nI k ∧ (nI k).toNatClampNeg < 201 := ix (by omega) (by omega)
  have ck : (nI k).toNatClampNeg = k := nI_clamp (by omega)
  unfold f_X1_takeNumber
  rw [sees_eq h a1 a2, mBind_of]
  by_cases k5 : kd B n k = 5
  · -- broken
    right
    have n2 : ¬ kd B n k = 2 := by rw [k5]; decide
    obtain ⟨S', r1, r2, r3⟩ := refuse_eq (e := 2) h a1 a2
    rw [if_pos k5] at r3
    rcases a3 with ⟨-, z1, z2⟩ | z
    · have r1 : f_X1_refuse 2 S = some (0, S') := r1
      have dd : Dd T 1 (tS B n k) := ⟨z1, z2⟩
      refine ⟨S', T, _, 1, _, ?_, taken_dead dd (by omega) (by omega), by omega, by omega, r3, dd, r2, nF.rfl⟩
      rw [if_neg n2, if_pos rfl, r1, mBind_of, if_pos (Or.inl rfl)]
    · exact absurd k5 z.1
  · have a3' := a3
    rcases a3 with z | ⟨-, z1, z2, z3, z4⟩
    · exact absurd z.1 k5
    by_cases k2' : kd B n k = 2
    · have hkK := kd_lt h a2 (by rw [k2']; decide)
      have z23 : T.1 69 22 = 2 ∧ T.1 69 23 = vl B n k := by
        rcases z4 with y | y | y | y | y
        · have y1 : kd B n k = 0 := y.1
          rw [k2'] at y1
          exact absurd y1 (by decide)
        · have y1 : kd B n k = 1 := y.1
          rw [k2'] at y1
          exact absurd y1 (by decide)
        · exact y.2
        · have y1 : kd B n k = 3 := y.1
          rw [k2'] at y1
          exact absurd y1 (by decide)
        · have y1 : kd B n k = 4 := y.1
          rw [k2'] at y1
          exact absurd y1 (by decide)
      rw [if_pos k2', if_neg (by decide), a1, if_pos k2, ck, (h.1.2.2.2 k (by omega)).2.2]
      simp only [bnd]
      rw [isIn_eq, mBind_of]
      unfold f_X12_taken f_X12_taken_24
      rw [if_pos z1, if_pos z23.1, if_pos z1, in_eq, mBind_of, z23.2]
      by_cases hr : lo ≤ vl B n k ∧ vl B n k ≤ hi
      · left
        have hab' : ab < vl B n k := by
          rcases hab with q | q | q
          · exact absurd k2' q
          · exact q
          · exact absurd hr q
        obtain ⟨T', t1, t2, t3⟩ := adv h hkK a4 a3' k5
        refine ⟨setI (setI S 6 2 (vl B n k)) 6 1 (nI (k + 1)), T', vl B n k, ?_, ?_, hr.1, hr.2, by rw [setI_slot _ _ _ _ (by omega), setI_same], ⟨fun b q => by rw [setI_row _ _ _ _ q, setI_row _ _ _ _ q], rfl⟩, t2, ⟨⟨setI_same _ _ _ _, by rw [setI_slot _ _ _ _ (by omega), setI_slot _ _ _ _ (by omega)]; exact a0⟩, by omega, t3, t2.bE a4⟩, rfl, k2'⟩
        · rw [if_neg (fun z => b01.mp z (show lo ≤ tV B n (tS B n k) ∧ tV B n (tS B n k) ≤ hi from hr)), if_pos (show ab < tV B n (tS B n k) from hab'), setI_slot _ _ _ _ (show 1 ≠ 2 by omega), a1, nI_1]
          rfl
        · rw [if_neg (fun z => b01.mp z (by rw [l_le, l_le]; exact hr))]
          unfold f_X12_taken_55
          simp only [bnd]
          rw [if_pos z1, t1, mBind_of, z23.2]
      · right
        obtain ⟨S', r1, r2, r3⟩ := refuse_eq (e := 3) h a1 a2
        rw [if_neg k5] at r3
        have r1 : f_X1_refuse 3 S = some (0, S') := r1
        have dd : Dd (setI (setI T 69 18 3) 69 19 (nI (tS B n k))) 3 (tS B n k) := ⟨by rw [setI_slot _ _ _ _ (by omega), setI_same]; rfl, setI_same _ _ _ _⟩
        refine ⟨S', setI (setI T 69 18 3) 69 19 (nI (tS B n k)), (setI (setI T 69 18 3) 69 19 (nI (tS B n k))).1 69 23, 3, tS B n k, ?_, ?_, by omega, by omega, r3, dd, r2, (nF.set (by omega)).tr (nF.set (by omega))⟩
        · rw [if_pos (b01.mpr (show ¬ (lo ≤ tV B n (tS B n k) ∧ tV B n (tS B n k) ≤ hi) from hr)), r1, mBind_of, if_pos (Or.inl rfl)]
        · rw [if_pos (b01.mpr (by rw [l_le, l_le]; exact hr)), z2, fails_eq z1, mBind_of]
          unfold f_X12_taken_55
          simp only [bnd]
          rw [if_neg (by rw [dd.1]; exact nI_ne0 (by omega) (by omega))]
    · right
      obtain ⟨S', r1, r2, r3⟩ := refuse_eq (e := 2) h a1 a2
      rw [if_neg k5] at r3
      have r1 : f_X1_refuse 2 S = some (0, S') := r1
      have n22 : ¬ T.1 69 22 = 2 := by
        intro q
        rcases z4 with y | y | y | y | y
        · rw [y.2] at q
          exact absurd q (by decide)
        · rw [y.2.1] at q
          exact absurd q (by decide)
        · exact k2' y.1
        · rw [y.2.1] at q
          exact absurd q (by decide)
        · rw [y.2.1] at q
          exact absurd q (by decide)
      have dd : Dd (setI (setI T 69 18 2) 69 19 (nI (tS B n k))) 2 (tS B n k) := ⟨by rw [setI_slot _ _ _ _ (by omega), setI_same]; rfl, setI_same _ _ _ _⟩
      have nz : ¬ (setI (setI T 69 18 2) 69 19 (nI (tS B n k))).1 69 18 = 0 := by rw [dd.1]; exact nI_ne0 (by omega) (by omega)
      refine ⟨S', setI (setI T 69 18 2) 69 19 (nI (tS B n k)), (setI (setI T 69 18 2) 69 19 (nI (tS B n k))).1 69 23, 2, tS B n k, ?_, ?_, by omega, by omega, r3, dd, r2, (nF.set (by omega)).tr (nF.set (by omega))⟩
      · rw [if_neg k2', if_pos rfl, r1, mBind_of, if_pos (Or.inl rfl)]
      · unfold f_X12_taken f_X12_taken_24 f_X12_taken_55
        rw [if_pos z1, if_neg n22, z2, fails_eq z1, mBind_of, if_neg nz]
        simp only [bnd]
        rw [if_neg nz]
/-- a sign or a word wanted by the class -/
theorem take_eq {S : mM} {B : Nat → Int32} {n K k : Nat} {p : Int32} (h : CE S B n K) (h1 : S.1 6 1 = nI k) (hk : k ≤ K) :
    (kd B n k = p ∧ ∃ S', f_X1_take p S = some (1, S') ∧ c6 S S' ∧ S'.1 6 1 = nI (k + 1) ∧ S'.1 6 2 = vl B n k ∧ S'.1 6 3 = S.1 6 3) ∨
    (¬ kd B n k = p ∧ ∃ S', f_X1_take p S = some (0, S') ∧ c6 S S' ∧ cFl S' (if kd B n k = 5 then 1 else 2) (tS B n k)) := by
  have := h.2.1
  have := h.2.2.1
  unfold f_X1_take
  rw [sees_eq h h1 hk, mBind_of]
  by_cases e : kd B n k = p
  · left
    refine ⟨e, setI (setI S 6 2 (vl B n k)) 6 1 (nI (k + 1)), ?_, ⟨fun b q => by rw [setI_row _ _ _ _ q, setI_row _ _ _ _ q], rfl⟩, setI_same _ _ _ _, by rw [setI_slot _ _ _ _ (by omega), setI_same], by rw [setI_slot _ _ _ _ (by omega), setI_slot _ _ _ _ (by omega)]⟩
    rw [if_pos e, if_neg (by decide), h1, if_pos (ix (show k < 201 by omega) (by omega)), nI_clamp (by omega), (h.1.2.2.2 k (by omega)).2.2]
    simp only [bnd]
    rw [setI_slot _ _ _ _ (show 1 ≠ 2 by omega), h1, nI_1]
    rfl
  · right
    obtain ⟨S', r1, r2, r3⟩ := refuse_eq (e := 2) h h1 hk
    have r1 : f_X1_refuse 2 S = some (0, S') := r1
    refine ⟨e, S', ?_, r2, r3⟩
    rw [if_neg e, if_pos rfl, r1, mBind_of, if_pos (Or.inl rfl)]
