/-! PURE: trigger: one stage read -/
def cS (t : Nat) (S S' : mM) : Prop := (∀ b, b ≠ 6 → b ≠ t → S'.1 b = S.1 b) ∧ S'.2 = S.2
theorem cS.rfl {t : Nat} {S : mM} : cS t S S := ⟨fun _ _ _ => Eq.refl _, Eq.refl _⟩
theorem cS.tr {t : Nat} {S S1 S2 : mM} (h : cS t S S1) (k : cS t S1 S2) : cS t S S2 := ⟨fun b q1 q2 => (k.1 b q1 q2).trans (h.1 b q1 q2), k.2.trans h.2⟩
theorem c6.s {t : Nat} {S S' : mM} (h : c6 S S') : cS t S S' := ⟨fun b q1 _ => h.1 b q1, h.2⟩
theorem cS.set {t i : Nat} {S : mM} {v : Int32} : cS t S (setI S t i v) := ⟨fun b _ q => setI_row _ _ _ _ q, Eq.refl _⟩
theorem cS.set6 {t i : Nat} {S : mM} {v : Int32} : cS t S (setI S 6 i v) := ⟨fun b q _ => setI_row _ _ _ _ q, Eq.refl _⟩
theorem cS.ce {t : Nat} {S S' : mM} {B : Nat → Int32} {n K : Nat} (h : cS t S S') (ht : 28 ≤ t) (e : CE S B n K) : CE S' B n K := e.fr (fun b _ _ => h.1 b (by omega) (by omega))
def rS (j : Nat) (T T' : mM) : Prop := (∀ b, b ≠ 69 → ¬ (78 ≤ b ∧ b ≤ 83) → T'.1 b = T.1 b) ∧ (∀ i, ¬ (18 ≤ i ∧ i ≤ 23) → T'.1 69 i = T.1 69 i) ∧ (∀ b, b ≠ 69 → T'.2.1 b = T.2.1 b) ∧ T'.2.2 = T.2.2 ∧ (∀ b i, b ≠ 69 → i ≠ j → T'.1 b i = T.1 b i)
theorem rS.rfl {j : Nat} {T : mM} : rS j T T := ⟨fun _ _ _ => Eq.refl _, fun _ _ => Eq.refl _, fun _ _ => Eq.refl _, Eq.refl _, fun _ _ _ _ => Eq.refl _⟩
theorem rS.tr {j : Nat} {T T1 T2 : mM} (h : rS j T T1) (k : rS j T1 T2) : rS j T T2 := ⟨fun b q1 q2 => (k.1 b q1 q2).trans (h.1 b q1 q2), fun i q2 => (k.2.1 i q2).trans (h.2.1 i q2), fun b q => (k.2.2.1 b q).trans (h.2.2.1 b q), k.2.2.2.1.trans h.2.2.2.1, fun b i q1 q2 => (k.2.2.2.2 b i q1 q2).trans (h.2.2.2.2 b i q1 q2)⟩
theorem nF.s {j : Nat} {T T' : mM} (h : nF T T') : rS j T T' := ⟨fun b q _ => h.1 b q, fun i q => h.2.1 i q, h.2.2.1, h.2.2.2, fun b i q _ => by rw [h.1 b q]⟩
theorem rS.set {j b : Nat} {T : mM} {v : Int32} (h1 : 78 ≤ b) (h2 : b ≤ 83) : rS j T (setI T b j v) := ⟨fun c _ q => setI_row _ _ _ _ (by omega), fun i _ => by rw [setI_row _ _ _ _ (by omega)], fun _ _ => Eq.refl _, Eq.refl _, fun c i _ q => setI_slot _ _ _ _ q _⟩
def rS1 (j : Nat) (T T' : mM) : Prop := (∀ b, b ≠ 69 → ¬ (78 ≤ b ∧ b ≤ 83) → T'.1 b = T.1 b) ∧ (∀ i, i ≠ 11 → ¬ (18 ≤ i ∧ i ≤ 23) → T'.1 69 i = T.1 69 i) ∧ (∀ b, b ≠ 69 → T'.2.1 b = T.2.1 b) ∧ T'.2.2 = T.2.2 ∧ (∀ b i, b ≠ 69 → i ≠ j → T'.1 b i = T.1 b i)
theorem rS.one {j : Nat} {T T' : mM} (h : rS j T T') : rS1 j T T' := ⟨h.1, fun i _ q => h.2.1 i q, h.2.2.1, h.2.2.2.1, h.2.2.2.2⟩
theorem rS1.tr {j : Nat} {T T1 T2 : mM} (h : rS1 j T T1) (k : rS1 j T1 T2) : rS1 j T T2 := ⟨fun b q1 q2 => (k.1 b q1 q2).trans (h.1 b q1 q2), fun i q1 q2 => (k.2.1 i q1 q2).trans (h.2.1 i q1 q2), fun b q => (k.2.2.1 b q).trans (h.2.2.1 b q), k.2.2.2.1.trans h.2.2.2.1, fun b i q1 q2 => (k.2.2.2.2 b i q1 q2).trans (h.2.2.2.2 b i q1 q2)⟩
theorem rS1.set11 {j : Nat} {T : mM} {v : Int32} : rS1 j T (setI T 69 11 v) := ⟨fun c q _ => setI_row _ _ _ _ q, fun i q _ => setI_slot _ _ _ _ q _, fun _ _ => Eq.refl _, Eq.refl _, fun c i q _ => by rw [setI_row _ _ _ _ q]⟩
theorem rS.bE {j : Nat} {T T' : mM} {B : Nat → Int32} {n : Nat} (h : rS j T T') (e : bE T B n) : bE T' B n := ⟨e.1, by rw [h.2.1 1 (by omega)]; exact e.2.1, fun k hk => by rw [h.1 70 (by omega) (by omega)]; exact e.2.2 k hk⟩
theorem Dd.row {T : mM} {e q b i : Nat} {v : Int32} (h : Dd T e q) (hb : b ≠ 69) : Dd (setI T b i v) e q := ⟨by rw [setI_row _ _ _ _ (Ne.symm hb)]; exact h.1, by rw [setI_row _ _ _ _ (Ne.symm hb)]; exact h.2⟩
theorem Nx.row {T : mM} {B : Nat → Int32} {n s b i : Nat} {v : Int32} (h : Nx T B n s) (hb : b ≠ 69) : Nx (setI T b i v) B n s := by
  unfold Nx at h ⊢
  rw [setI_row _ _ _ _ (Ne.symm hb)]
  exact h
theorem At.row {S T : mM} {B : Nat → Int32} {n K k b i b' i' : Nat} {v v' : Int32} (h : At S T B n K k) (hb : b ≠ 6) (hb' : 71 ≤ b') : At (setI S b i v) (setI T b' i' v') B n K k :=
  ⟨⟨by rw [setI_row _ _ _ _ (Ne.symm hb)]; exact h.1.1, by rw [setI_row _ _ _ _ (Ne.symm hb)]; exact h.1.2⟩, h.2.1, h.2.2.1.row (by omega), h.2.2.2.1, by rw [setI_row _ _ _ _ (by omega)]; exact h.2.2.2.2.1, fun k hk => by rw [setI_row _ _ _ _ (by omega)]; exact h.2.2.2.2.2 k hk⟩
theorem At.c {S T : mM} {B : Nat → Int32} {n K k b i : Nat} {v : Int32} (h : At S T B n K k) (hb : b ≠ 6) : At (setI S b i v) T B n K k := ⟨⟨by rw [setI_row _ _ _ _ (Ne.symm hb)]; exact h.1.1, by rw [setI_row _ _ _ _ (Ne.symm hb)]; exact h.1.2⟩, h.2⟩
theorem At.r {S T : mM} {B : Nat → Int32} {n K k b' i' : Nat} {v' : Int32} (h : At S T B n K k) (hb' : 71 ≤ b') : At S (setI T b' i' v') B n K k :=
  ⟨h.1, h.2.1, h.2.2.1.row (by omega), h.2.2.2.1, by rw [setI_row _ _ _ _ (by omega)]; exact h.2.2.2.2.1, fun k hk => by rw [setI_row _ _ _ _ (by omega)]; exact h.2.2.2.2.2 k hk⟩
theorem hab1000 {B : Nat → Int32} {n k : Nat} {lo hi : Int32} (h : -1000 < lo) : (¬ kd B n k = 2) ∨ -1000 < vl B n k ∨ ¬ (lo ≤ vl B n k ∧ vl B n k ≤ hi) := by
  by_cases q : lo ≤ vl B n k ∧ vl B n k ≤ hi
  · refine Or.inr (Or.inl ?_)
    have q1 := q.1
    rw [Int32.le_iff_toInt_le] at q1
    rw [Int32.lt_iff_toInt_lt] at h ⊢
    omega
  · exact Or.inr (Or.inr q)
/-! the third number -/
def thirdR (j : Nat) (ev : Int32) (T : mM) : Option (Unit × mM) := if ev = (2 : Int32) then f_X12_readEvent_115 (nI j) T else if ev = (3 : Int32) then f_X12_readEvent_115 (nI j) T else if ev = (4 : Int32) then f_X12_readEvent_148 (nI j) T else if ev = (5 : Int32) then f_X12_readEvent_148 (nI j) T else if ev = (6 : Int32) then f_X12_readEvent_148 (nI j) T else some ((), T)
theorem third_dead {T : mM} {e q j : Nat} {ev : Int32} (h : Dd T e q) (h1 : 1 ≤ e) (h5 : e ≤ 5) (hj : j < 6) : ∃ T', thirdR j ev T = some ((), T') ∧ rS j T T' ∧ Dd T' e q := by
  have ne : ¬ T.1 69 18 = 0 := by rw [h.1]; exact nI_ne0 (by omega) (by omega)
  have h115 : f_X12_readEvent_115 (nI j) T = some ((), setI T 82 j (T.1 69 23)) := by
    unfold f_X12_readEvent_115
    rw [taken_dead h h1 h5, mBind_of, if_pos (ix hj (by omega)), nI_clamp (by omega)]
    rfl
  have h148 : f_X12_readEvent_148 (nI j) T = some ((), setI T 82 j (T.1 69 23)) := by
    unfold f_X12_readEvent_148 f_X12_readEvent_202
    rw [if_neg ne, taken_dead h h1 h5, mBind_of, if_pos (ix hj (by omega)), nI_clamp (by omega)]
    rfl
  unfold thirdR
  rw [h115, h148]
  by_cases e2 : ev = 2
  · rw [if_pos e2]
    exact ⟨_, rfl, rS.set (by omega) (by omega), h.row (by omega)⟩
  rw [if_neg e2]
  by_cases e3 : ev = 3
  · rw [if_pos e3]
    exact ⟨_, rfl, rS.set (by omega) (by omega), h.row (by omega)⟩
  rw [if_neg e3]
  by_cases e4 : ev = 4
  · rw [if_pos e4]
    exact ⟨_, rfl, rS.set (by omega) (by omega), h.row (by omega)⟩
  rw [if_neg e4]
  by_cases e5 : ev = 5
  · rw [if_pos e5]
    exact ⟨_, rfl, rS.set (by omega) (by omega), h.row (by omega)⟩
  rw [if_neg e5]
  by_cases e6 : ev = 6
  · rw [if_pos e6]
    exact ⟨_, rfl, rS.set (by omega) (by omega), h.row (by omega)⟩
  rw [if_neg e6]
  exact ⟨_, rfl, rS.rfl, h⟩
/-- a span: the class's slot 7 -/
theorem span_ag {S T : mM} {B : Nat → Int32} {n K k t j : Nat} (h : CE S B n K) (hA : At S T B n K k) (ht : 28 ≤ t) (hj : j < 6) :
    (∃ S' T' k' v, (mBind (f_X1_takeNumber (1 : Int32) (200 : Int32) (-1000 : Int32) S) fun r2 S3 => bnd (setI S3 t 7 (S3.1 6 2)) fun S4 => if r2 = 0 ∨ r2 = 1 then some (r2, S4) else none) = some (1, S') ∧ f_X12_readEvent_115 (nI j) T = some ((), T') ∧ cS t S S' ∧ rS j T T' ∧ At S' T' B n K k' ∧ 1 ≤ v ∧ v ≤ 200 ∧ S'.1 t 7 = v ∧ T'.1 82 j = v ∧ (∀ i, i ≠ 7 → S'.1 t i = S.1 t i) ∧ (∀ b, b ≠ 69 → b ≠ 82 → T'.1 b = T.1 b)) ∨
    (∃ S' T' e q, (mBind (f_X1_takeNumber (1 : Int32) (200 : Int32) (-1000 : Int32) S) fun r2 S3 => bnd (setI S3 t 7 (S3.1 6 2)) fun S4 => if r2 = 0 ∨ r2 = 1 then some (r2, S4) else none) = some (0, S') ∧ f_X12_readEvent_115 (nI j) T = some ((), T') ∧ 1 ≤ e ∧ e ≤ 5 ∧ cFl S' e q ∧ Dd T' e q ∧ cS t S S' ∧ rS j T T') := by
  unfold f_X12_readEvent_115
  simp only [bnd]
  rcases tn_ag (lo := 1) (hi := 200) (ab := -1000) h hA (hab1000 (by decide)) with ⟨S', T', v, c1, c2, c3, c4, c5, c6', c7, c8, -, -⟩ | ⟨S', T', x, e, q, c1, c2, c3, c4, c5, c6', c7, c8⟩
  · left
    rw [c1, mBind_of, c2, mBind_of, if_pos (Or.inr rfl), if_pos (ix hj (by omega)), nI_clamp (by omega)]
    refine ⟨_, _, k + 1, v, rfl, rfl, c6'.s.tr cS.set, c7.s.tr (rS.set (by omega) (by omega)), c8.row (by omega) (by omega), c3, c4, by rw [setI_same]; exact c5, setI_same _ _ _ _, fun i hi => by rw [setI_slot _ _ _ _ hi, c6'.1 t (by omega)], fun b q1 q2 => by rw [setI_row _ _ _ _ q2, c7.1 b q1]⟩
  · right
    rw [c1, mBind_of, c2, mBind_of, if_pos (Or.inl rfl), if_pos (ix hj (by omega)), nI_clamp (by omega)]
    exact ⟨_, _, e, q, rfl, rfl, c3, c4, ⟨by rw [setI_row _ _ _ _ (by omega)]; exact c5.1, by rw [setI_row _ _ _ _ (by omega)]; exact c5.2⟩, c6'.row (by omega), c7.s.tr cS.set, c8.s.tr (rS.set (by omega) (by omega))⟩
/-- a top: the class's slot 6 -/
theorem top_ag {S T : mM} {B : Nat → Int32} {n K k t j : Nat} (h : CE S B n K) (hA : At S T B n K k) (ht : 28 ≤ t) (hj : j < 6) (h81 : T.1 81 j = S.1 t 5) :
    (∃ S' T' k' v, (mBind (f_X1_takeNumber (-128 : Int32) (127 : Int32) (S.1 t 5) S) fun r2 S3 => bnd (setI S3 t 6 (S3.1 6 2)) fun S4 => if r2 = 0 ∨ r2 = 1 then some (r2, S4) else none) = some (1, S') ∧ f_X12_readEvent_148 (nI j) T = some ((), T') ∧ cS t S S' ∧ rS j T T' ∧ At S' T' B n K k' ∧ S'.1 t 6 = v ∧ T'.1 82 j = v ∧ (∀ i, i ≠ 6 → S'.1 t i = S.1 t i) ∧ (∀ b, b ≠ 69 → b ≠ 82 → T'.1 b = T.1 b)) ∨
    (∃ S' T' e q, (mBind (f_X1_takeNumber (-128 : Int32) (127 : Int32) (S.1 t 5) S) fun r2 S3 => bnd (setI S3 t 6 (S3.1 6 2)) fun S4 => if r2 = 0 ∨ r2 = 1 then some (r2, S4) else none) = some (0, S') ∧ f_X12_readEvent_148 (nI j) T = some ((), T') ∧ 1 ≤ e ∧ e ≤ 5 ∧ cFl S' e q ∧ Dd T' e q ∧ cS t S S' ∧ rS j T T') := by
  have h202 : ∀ U x T', f_X12_taken (-128) 127 U = some (x, T') → f_X12_readEvent_202 (nI j) U = some ((), setI T' 82 j x) := fun U x T' z => by
    unfold f_X12_readEvent_202
    rw [z, mBind_of, if_pos (ix hj (by omega)), nI_clamp (by omega)]
    rfl
  by_cases hbad : kd B n k = 2 ∧ (-128 ≤ vl B n k ∧ vl B n k ≤ 127) ∧ vl B n k ≤ S.1 t 5
  · -- at or below the level
    right
    obtain ⟨b1, b2, b3⟩ := hbad
    have k5 : ¬ kd B n k = 5 := by rw [b1]; decide
    obtain ⟨⟨a1, a0⟩, a2, a3, a4⟩ := hA
    have := h.2.1
    have := h.2.2.1
    rcases a3 with z | ⟨-, z1, z2, z3, z4⟩
    · exact absurd z.1 k5
    have z23 : T.1 69 22 = 2 ∧ T.1 69 23 = vl B n k := by
      rcases z4 with y | y | y | y | y
      · have y1 : kd B n k = 0 := y.1
        rw [b1] at y1
        exact absurd y1 (by decide)
      · have y1 : kd B n k = 1 := y.1
        rw [b1] at y1
        exact absurd y1 (by decide)
      · exact y.2
      · have y1 : kd B n k = 3 := y.1
        rw [b1] at y1
        exact absurd y1 (by decide)
      · have y1 : kd B n k = 4 := y.1
        rw [b1] at y1
        exact absurd y1 (by decide)
    obtain ⟨S', r1, r2, r3⟩ := refuse_eq (e := 5) h a1 a2
    rw [if_neg k5] at r3
    have r1 : f_X1_refuse 5 S = some (0, S') := r1
    have dd : Dd (setI (setI T 69 18 5) 69 19 (nI (tS B n k))) 5 (tS B n k) := ⟨by rw [setI_slot _ _ _ _ (by omega), setI_same]; rfl, setI_same _ _ _ _⟩
    have htk := taken_dead (lo := -128) (hi := 127) dd (by omega) (by omega)
    refine ⟨setI S' t 6 (S'.1 6 2), _, 5, tS B n k, ?_, ?_, by omega, by omega, ⟨by rw [setI_row _ _ _ _ (by omega)]; exact r3.1, by rw [setI_row _ _ _ _ (by omega)]; exact r3.2⟩, dd.row (b := 82) (i := j) (v := (setI (setI T 69 18 5) 69 19 (nI (tS B n k))).1 69 23) (by omega), r2.s.tr cS.set, (((nF.set (by omega)).tr (nF.set (by omega))).s).tr (rS.set (by omega) (by omega))⟩
    · unfold f_X1_takeNumber
      rw [sees_eq h a1 a2, mBind_of, if_pos b1, if_neg (by decide), a1, if_pos (ix (show k < 201 by omega) (by omega)), nI_clamp (by omega), (h.1.2.2.2 k (by omega)).2.2]
      simp only [bnd]
      rw [isIn_eq, mBind_of, if_neg (fun z => b01.mp z (show -128 ≤ tV B n (tS B n k) ∧ tV B n (tS B n k) ≤ 127 from b2)), if_neg (show ¬ S.1 t 5 < tV B n (tS B n k) from Int32.not_lt.mpr b3), r1, mBind_of, if_pos (Or.inl rfl), mBind_of, if_pos (Or.inl rfl)]
    · unfold f_X12_readEvent_148
      rw [if_pos z1, if_pos z23.1, in_eq, mBind_of, z23.2, show (-128 : Int64) = (-128 : Int32).toInt64 by decide, show (127 : Int64) = (127 : Int32).toInt64 by decide, if_neg (fun z => b01.mp z (by rw [l_le, l_le]; exact b2)), if_pos (ix hj (by omega)), nI_clamp (by omega), h81, if_neg (Int32.not_lt.mpr b3), z2, fails_eq z1, mBind_of]
      exact h202 _ _ _ htk
  · have hab : (¬ kd B n k = 2) ∨ S.1 t 5 < vl B n k ∨ ¬ (-128 ≤ vl B n k ∧ vl B n k ≤ 127) := by
      by_cases q1 : kd B n k = 2
      · by_cases q2 : -128 ≤ vl B n k ∧ vl B n k ≤ 127
        · exact Or.inr (Or.inl (Int32.not_le.mp (fun z => hbad ⟨q1, q2, z⟩)))
        · exact Or.inr (Or.inr q2)
      · exact Or.inl q1
    have href : ∀ x T', f_X12_taken (-128) 127 T = some (x, T') → f_X12_readEvent_148 (nI j) T = some ((), setI T' 82 j x) := fun x T' z => by
      have z202 := h202 _ _ _ z
      unfold f_X12_readEvent_148
      rw [z202]
      by_cases y1 : T.1 69 18 = 0
      · rw [if_pos y1]
        by_cases y2 : T.1 69 22 = 2
        · rw [if_pos y2, in_eq, mBind_of, show (-128 : Int64) = (-128 : Int32).toInt64 by decide, show (127 : Int64) = (127 : Int32).toInt64 by decide]
          by_cases y3 : -128 ≤ T.1 69 23 ∧ T.1 69 23 ≤ 127
          · rw [if_neg (fun z => b01.mp z (by rw [l_le, l_le]; exact y3)), if_pos (ix hj (by omega)), nI_clamp (by omega), h81]
            have : S.1 t 5 < T.1 69 23 := by
              rcases hA.2.2.1 with u | ⟨-, -, -, -, u | u | u | u | u⟩
              · rw [y1] at u
                exact absurd u.2.1 (by decide)
              · rw [y2] at u
                exact absurd u.2 (by decide)
              · rw [y2] at u
                exact absurd u.2.1 (by decide)
              · have u1 : kd B n k = 2 := u.1
                have u2 : T.1 69 23 = vl B n k := u.2.2
                rw [u2] at y3 ⊢
                rcases hab with o | o | o
                · exact absurd u1 o
                · exact o
                · exact absurd y3 o
              · rw [y2] at u
                exact absurd u.2.1 (by decide)
              · rw [y2] at u
                exact absurd u.2.1 (by decide)
            rw [if_pos this]
            exact z202
          · rw [if_pos (b01.mpr (by rw [l_le, l_le]; exact y3))]
            exact z202
        · rw [if_neg y2]
      · rw [if_neg y1]
    simp only [bnd]
    rcases tn_ag (lo := -128) (hi := 127) (ab := S.1 t 5) h hA hab with ⟨S', T', v, c1, c2, c3, c4, c5, c6', c7, c8, -, -⟩ | ⟨S', T', x, e, q, c1, c2, c3, c4, c5, c6', c7, c8⟩
    · left
      rw [c1, mBind_of, href _ _ c2, if_pos (Or.inr rfl)]
      refine ⟨_, _, k + 1, v, rfl, rfl, c6'.s.tr cS.set, c7.s.tr (rS.set (by omega) (by omega)), c8.row (by omega) (by omega), by rw [setI_same]; exact c5, setI_same _ _ _ _, fun i hi => by rw [setI_slot _ _ _ _ hi, c6'.1 t (by omega)], fun b q1 q2 => by rw [setI_row _ _ _ _ q2, c7.1 b q1]⟩
    · right
      rw [c1, mBind_of, href _ _ c2, if_pos (Or.inl rfl)]
      exact ⟨_, _, e, q, rfl, rfl, c3, c4, ⟨by rw [setI_row _ _ _ _ (by omega)]; exact c5.1, by rw [setI_row _ _ _ _ (by omega)]; exact c5.2⟩, c6'.row (by omega), c7.s.tr cS.set, c8.s.tr (rS.set (by omega) (by omega))⟩
/-- third numbers agree -/
theorem third_ag {S T : mM} {B : Nat → Int32} {n K k t j ev : Nat} (h : CE S B n K) (hA : At S T B n K k) (ht : 28 ≤ t) (hj : j < 6) (hev : ev ≤ 7) (h0 : S.1 t 0 = nI ev) (h81 : T.1 81 j = S.1 t 5) :
    (∃ S' T' k', f_X1_readThird t S = some (1, S') ∧ thirdR j (nI ev) T = some ((), T') ∧ cS t S S' ∧ rS j T T' ∧ At S' T' B n K k' ∧ (∀ i, i ≠ 6 → i ≠ 7 → S'.1 t i = S.1 t i) ∧ (∀ b, b ≠ 69 → b ≠ 82 → T'.1 b = T.1 b) ∧
      (ev = 2 ∨ ev = 3 → (∃ v, 1 ≤ v ∧ v ≤ 200 ∧ S'.1 t 7 = nI v) ∧ T'.1 82 j = S'.1 t 7) ∧ (ev = 4 ∨ ev = 5 ∨ ev = 6 → T'.1 82 j = S'.1 t 6)) ∨
    (∃ S' T' e q, f_X1_readThird t S = some (0, S') ∧ thirdR j (nI ev) T = some ((), T') ∧ 1 ≤ e ∧ e ≤ 5 ∧ cFl S' e q ∧ Dd T' e q ∧ cS t S S' ∧ rS j T T') := by
  have ne : ∀ a b : Nat, a < 100 → b < 100 → a ≠ b → ¬ nI a = nI b := fun a b h1 h2 h3 z => h3 ((nI_eq (by omega) (by omega)).mp z)
  unfold f_X1_readThird thirdR
  rw [h0]
  have spn : (ev = 2 ∨ ev = 3) → ((∃ S' T' k', (mBind (f_X1_takeNumber (1 : Int32) (200 : Int32) (-1000 : Int32) S) fun r2 S3 => bnd (setI S3 t 7 (S3.1 6 2)) fun S4 => if r2 = 0 ∨ r2 = 1 then some (r2, S4) else none) = some (1, S') ∧ f_X12_readEvent_115 (nI j) T = some ((), T') ∧ cS t S S' ∧ rS j T T' ∧ At S' T' B n K k' ∧ (∀ i, i ≠ 6 → i ≠ 7 → S'.1 t i = S.1 t i) ∧ (∀ b, b ≠ 69 → b ≠ 82 → T'.1 b = T.1 b) ∧
      (ev = 2 ∨ ev = 3 → (∃ v, 1 ≤ v ∧ v ≤ 200 ∧ S'.1 t 7 = nI v) ∧ T'.1 82 j = S'.1 t 7) ∧ (ev = 4 ∨ ev = 5 ∨ ev = 6 → T'.1 82 j = S'.1 t 6)) ∨
    (∃ S' T' e q, (mBind (f_X1_takeNumber (1 : Int32) (200 : Int32) (-1000 : Int32) S) fun r2 S3 => bnd (setI S3 t 7 (S3.1 6 2)) fun S4 => if r2 = 0 ∨ r2 = 1 then some (r2, S4) else none) = some (0, S') ∧ f_X12_readEvent_115 (nI j) T = some ((), T') ∧ 1 ≤ e ∧ e ≤ 5 ∧ cFl S' e q ∧ Dd T' e q ∧ cS t S S' ∧ rS j T T')) := fun he => by
    rcases span_ag (t := t) (j := j) h hA ht hj with ⟨S', T', k', v, c1, c2, c3, c4, c5, c6', c7, c8, c9, c10, c11⟩ | z
    · obtain ⟨w, hw, rfl⟩ := (upto (p := v) (n := 200) (by omega)).mp ⟨Int32.le_trans (by decide) c6', c7⟩
      have := (nI_leI (a := 1) (b := w) (by omega) (by omega)).mp c6'
      exact Or.inl ⟨S', T', k', c1, c2, c3, c4, c5, fun i _ q => c10 i q, c11, fun _ => ⟨⟨w, by omega, hw, c8⟩, by rw [c8, c9]⟩, fun z => absurd z (by omega)⟩
    · exact Or.inr z
  have tpn : (ev = 4 ∨ ev = 5 ∨ ev = 6) → ((∃ S' T' k', (mBind (f_X1_takeNumber (-128 : Int32) (127 : Int32) (S.1 t 5) S) fun r2 S3 => bnd (setI S3 t 6 (S3.1 6 2)) fun S4 => if r2 = 0 ∨ r2 = 1 then some (r2, S4) else none) = some (1, S') ∧ f_X12_readEvent_148 (nI j) T = some ((), T') ∧ cS t S S' ∧ rS j T T' ∧ At S' T' B n K k' ∧ (∀ i, i ≠ 6 → i ≠ 7 → S'.1 t i = S.1 t i) ∧ (∀ b, b ≠ 69 → b ≠ 82 → T'.1 b = T.1 b) ∧
      (ev = 2 ∨ ev = 3 → (∃ v, 1 ≤ v ∧ v ≤ 200 ∧ S'.1 t 7 = nI v) ∧ T'.1 82 j = S'.1 t 7) ∧ (ev = 4 ∨ ev = 5 ∨ ev = 6 → T'.1 82 j = S'.1 t 6)) ∨
    (∃ S' T' e q, (mBind (f_X1_takeNumber (-128 : Int32) (127 : Int32) (S.1 t 5) S) fun r2 S3 => bnd (setI S3 t 6 (S3.1 6 2)) fun S4 => if r2 = 0 ∨ r2 = 1 then some (r2, S4) else none) = some (0, S') ∧ f_X12_readEvent_148 (nI j) T = some ((), T') ∧ 1 ≤ e ∧ e ≤ 5 ∧ cFl S' e q ∧ Dd T' e q ∧ cS t S S' ∧ rS j T T')) := fun he => by
    rcases top_ag (t := t) (j := j) h hA ht hj h81 with ⟨S', T', k', v, c1, c2, c3, c4, c5, c8, c9, c10, c11⟩ | z
    · exact Or.inl ⟨S', T', k', c1, c2, c3, c4, c5, fun i q _ => c10 i q, c11, fun z => absurd z (by omega), fun _ => by rw [c8, c9]⟩
    · exact Or.inr z
  by_cases e2 : ev = 2
  · have z : nI ev = (2 : Int32) := by rw [e2]; rfl
    rw [if_pos z, if_pos z]
    exact spn (Or.inl e2)
  have z2 : ¬ nI ev = (2 : Int32) := ne ev 2 (by omega) (by omega) e2
  rw [if_neg z2, if_neg z2]
  by_cases e3 : ev = 3
  · have z : nI ev = (3 : Int32) := by rw [e3]; rfl
    rw [if_pos z, if_pos z]
    exact spn (Or.inr e3)
  have z3 : ¬ nI ev = (3 : Int32) := ne ev 3 (by omega) (by omega) e3
  rw [if_neg z3, if_neg z3]
  by_cases e4 : ev = 4
  · have z : nI ev = (4 : Int32) := by rw [e4]; rfl
    rw [if_pos z, if_pos z]
    exact tpn (Or.inl e4)
  have z4 : ¬ nI ev = (4 : Int32) := ne ev 4 (by omega) (by omega) e4
  rw [if_neg z4, if_neg z4]
  by_cases e5 : ev = 5
  · have z : nI ev = (5 : Int32) := by rw [e5]; rfl
    rw [if_pos z, if_pos z]
    exact tpn (Or.inr (Or.inl e5))
  have z5 : ¬ nI ev = (5 : Int32) := ne ev 5 (by omega) (by omega) e5
  rw [if_neg z5, if_neg z5]
  by_cases e6 : ev = 6
  · have z : nI ev = (6 : Int32) := by rw [e6]; rfl
    rw [if_pos z, if_pos z]
    exact tpn (Or.inr (Or.inr e6))
  have z6 : ¬ nI ev = (6 : Int32) := ne ev 6 (by omega) (by omega) e6
  rw [if_neg z6, if_neg z6]
  exact Or.inl ⟨S, T, k, rfl, rfl, cS.rfl, rS.rfl, hA, fun _ _ _ => rfl, fun _ _ _ => rfl, fun z => absurd z (by omega), fun z => absurd z (by omega)⟩
