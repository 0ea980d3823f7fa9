/-! PURE: what a write leaves as it was -/
theorem setI_row (S : mM) (a k : Nat) (v : Int32) {b : Nat} (h : b ≠ a) : (setI S a k v).1 b = S.1 b := by
  unfold setI
  exact if_neg h
theorem setI_at (S : mM) (a k : Nat) (v : Int32) : (setI S a k v).1 a = upd (S.1 a) k v := by
  unfold setI
  exact if_pos rfl
theorem setI_slot (S : mM) (a k : Nat) (v : Int32) {j : Nat} (h : j ≠ k) (b : Nat) : (setI S a k v).1 b j = S.1 b j := by
  rw [setI_1, if_neg (fun q => h q.2)]
theorem setI_same (S : mM) (a k : Nat) (v : Int32) : (setI S a k v).1 a k = v := by
  rw [setI_1, if_pos ⟨rfl, rfl⟩]
theorem setJ_row (S : mM) (a k : Nat) (v : Int64) {b : Nat} (h : b ≠ a) : (setJ S a k v).2.1 b = S.2.1 b := by
  unfold setJ
  exact if_neg h
def rwTp (a : Nat) : Prop := a = 1 ∨ a = 2 ∨ a = 70
theorem iTp.frame {S S' : mM} (h : iTp S) (hr : ∀ a, rwTp a → S'.1 a = S.1 a) (h69 : S'.1 69 1 = S.1 69 1) : iTp S' := by
  obtain ⟨n, h1, h2, h3, h4⟩ := h
  refine ⟨n, h1, by rw [hr 1 (Or.inl rfl)]; exact h2, by rw [h69]; exact h3, fun k hk => ?_⟩
  rw [hr 70 (Or.inr (Or.inr rfl)), hr 2 (Or.inr (Or.inl rfl))]
  exact h4 k hk
def rwEn (a : Nat) : Prop := (7 ≤ a ∧ a ≤ 9) ∨ (28 ≤ a ∧ a ≤ 43) ∨ (71 ≤ a ∧ a ≤ 77)
def slEn (k : Nat) : Prop := k = 3 ∨ k = 4 ∨ (25 ≤ k ∧ k ≤ 33)
theorem iEn.frame {m : Nat} {S S' : mM} (h : iEn m S) (hr : ∀ a, rwEn a → S'.1 a = S.1 a) (h69 : ∀ k, slEn k → S'.1 69 k = S.1 69 k) (hP : S'.2.2 = S.2.2) : iEn m S' := by
  obtain ⟨p, N, cnt, h1, h2, h3, h4, h5, h6, h7, h8, h9, h10, h11, h12, h13, h14, h15, h16, h17, h18, h19, h20, h21, h22⟩ := h
  have e7 : S'.1 7 = S.1 7 := hr 7 (by unfold rwEn; omega)
  have e8 : S'.1 8 = S.1 8 := hr 8 (by unfold rwEn; omega)
  have e9 : S'.1 9 = S.1 9 := hr 9 (by unfold rwEn; omega)
  have e71 : S'.1 71 = S.1 71 := hr 71 (by unfold rwEn; omega)
  have e72 : S'.1 72 = S.1 72 := hr 72 (by unfold rwEn; omega)
  have e73 : S'.1 73 = S.1 73 := hr 73 (by unfold rwEn; omega)
  have e74 : S'.1 74 = S.1 74 := hr 74 (by unfold rwEn; omega)
  have e75 : S'.1 75 = S.1 75 := hr 75 (by unfold rwEn; omega)
  have e76 : S'.1 76 = S.1 76 := hr 76 (by unfold rwEn; omega)
  have e77 : S'.1 77 = S.1 77 := hr 77 (by unfold rwEn; omega)
  have hp : p = 28 ∨ p = 36 := by rcases h1 with q | q <;> omega
  have ep : S'.1 p = S.1 p := hr p (by unfold rwEn; omega)
  have es : ∀ i, i < cnt → S'.1 (p + 2 + i) = S.1 (p + 2 + i) := fun i hi => hr _ (by unfold rwEn; omega)
  have s3 := h69 3 (by unfold slEn; omega)
  have s4 := h69 4 (by unfold slEn; omega)
  have s25 := h69 25 (by unfold slEn; omega)
  have s26 := h69 26 (by unfold slEn; omega)
  have s27 := h69 27 (by unfold slEn; omega)
  have s28 := h69 28 (by unfold slEn; omega)
  have s29 := h69 29 (by unfold slEn; omega)
  have s30 := h69 30 (by unfold slEn; omega)
  have s31 := h69 31 (by unfold slEn; omega)
  have s32 := h69 32 (by unfold slEn; omega)
  have s33 := h69 33 (by unfold slEn; omega)
  refine ⟨p, N, cnt, by rw [hP]; exact h1, by rw [hP]; exact h2, h3, by rw [ep]; exact h4, by rw [s4]; exact h5, fun i hi => ?_, h7, by rw [e8]; exact h8, by rw [s3]; exact h9, by rw [e9, e71]; exact h10, by rw [e7, s26]; exact h11, by rw [e7, s27]; exact h12, by rw [e7, s25]; exact h13, by rw [e7, s28]; exact h14, by rw [e7, s29]; exact h15, by rw [e7, s30]; exact h16, by rw [e7, s31]; exact h17, by rw [e7, s32]; exact h18, by rw [e7, s33]; exact h19, ?_, by rw [e7]; exact h21, by rw [e7]; exact h22⟩
  · have := h6 i hi
    unfold iSt at this ⊢
    rw [es i hi, e72, e73, e74, e75, e76, e77]
    exact this
  · rw [e7]
    intro hs
    obtain ⟨f, g, hh, w, k1, k2, k3, k4, k5, k6, k7, k8, k9, k10, k11, k12, k13⟩ := h20 hs
    refine ⟨f, g, hh, w, k1, k2, k3, k4, k5, by rw [es g k4]; exact k6, k7, k8, k9, k10, k11, by rw [es g k4]; exact k12, fun i hi => ?_⟩
    have := k13 i hi
    unfold iHi at this ⊢
    rw [es i hi, e71]
    exact this
def rwSg (a : Nat) : Prop := a = 10 ∨ (12 ≤ a ∧ a ≤ 27) ∨ (84 ≤ a ∧ a ≤ 87)
theorem iSg.frame {S S' : mM} (h : iSg S) (hr : ∀ a, rwSg a → S'.1 a = S.1 a) (h69 : S'.1 69 34 = S.1 69 34) (h7 : S'.1 7 6 = S.1 7 6) : iSg S' := by
  obtain ⟨c, h1, h2, h3, h4, h5⟩ := h
  refine ⟨c, h1, by rw [hr 10 (by unfold rwSg; omega)]; exact h2, by rw [h69]; exact h3, by rw [h7]; exact h4, fun k hk => ?_⟩
  rw [hr (12 + 2 * k) (by unfold rwSg; omega), hr (13 + 2 * k) (by unfold rwSg; omega), hr 84 (by unfold rwSg; omega), hr 85 (by unfold rwSg; omega), hr 86 (by unfold rwSg; omega), hr 87 (by unfold rwSg; omega)]
  exact h5 k hk
def rwSh (a : Nat) : Prop := (45 ≤ a ∧ a ≤ 52) ∨ (88 ≤ a ∧ a ≤ 90)
theorem iSh.frame {S S' : mM} (h : iSh S) (hr : ∀ a, rwSh a → S'.1 a = S.1 a) : iSh S' := by
  intro k hk
  have := h k hk
  rw [hr (45 + 2 * k) (by unfold rwSh; omega), hr (46 + 2 * k) (by unfold rwSh; omega), hr 88 (by unfold rwSh; omega), hr 89 (by unfold rwSh; omega), hr 90 (by unfold rwSh; omega)]
  exact this
def rwRw (a : Nat) : Prop := (54 ≤ a ∧ a ≤ 65) ∨ (91 ≤ a ∧ a ≤ 93)
theorem iRw.frame {S S' : mM} (h : iRw S) (hr : ∀ a, rwRw a → S'.1 a = S.1 a) (hj : ∀ a, rwRw a → S'.2.1 a = S.2.1 a) : iRw S' := by
  intro k hk
  have := h k hk
  rw [hr (54 + 3 * k) (by unfold rwRw; omega), hr (56 + 3 * k) (by unfold rwRw; omega), hr 91 (by unfold rwRw; omega), hr 93 (by unfold rwRw; omega), hj (55 + 3 * k) (by unfold rwRw; omega), hj 92 (by unfold rwRw; omega)]
  exact this
def rwWr (a : Nat) : Prop := (66 ≤ a ∧ a ≤ 68) ∨ a = 96 ∨ a = 97
theorem iWr.frame {S S' : mM} (h : iWr S) (hr : ∀ a, rwWr a → S'.1 a = S.1 a) (h48 : S'.1 69 48 = S.1 69 48) (h51 : S'.1 69 51 = S.1 69 51) : iWr S' := by
  obtain ⟨h0, n, h1, h2, h3, h4⟩ := h
  refine ⟨by rw [hr 66 (by unfold rwWr; omega), h51]; exact h0, n, h1, by rw [hr 66 (by unfold rwWr; omega)]; exact h2, by rw [h48]; exact h3, fun i hi => ?_⟩
  rw [hr 67 (by unfold rwWr; omega), hr 68 (by unfold rwWr; omega), hr 96 (by unfold rwWr; omega), hr 97 (by unfold rwWr; omega)]
  exact h4 i hi
/-- a write outside a part's footprint -/
theorem setI_off (S : mM) {a k b j : Nat} {v : Int32} (h : ¬ (b = a ∧ j = k)) : (setI S a k v).1 b j = S.1 b j := by rw [setI_1, if_neg h]
def oTp (a k : Nat) : Bool := !(a == 1 || a == 2 || a == 70 || (a == 69 && k == 1))
theorem iTp.w {S : mM} {a k : Nat} {v : Int32} (ho : oTp a k = true) (h : iTp S) : iTp (setI S a k v) := by
  simp only [oTp, Bool.not_eq_true', Bool.or_eq_false_iff, beq_eq_false_iff_ne, Bool.and_eq_false_iff] at ho
  exact h.frame (fun b hb => setI_row _ _ _ _ (by unfold rwTp at hb; omega)) (setI_off _ (by omega))
def oEn (a k : Nat) : Bool := !((7 ≤ a && a ≤ 9) || (28 ≤ a && a ≤ 43) || (71 ≤ a && a ≤ 77) || (a == 69 && (k == 3 || k == 4 || (25 ≤ k && k ≤ 33))))
theorem iEn.w {m : Nat} {S : mM} {a k : Nat} {v : Int32} (ho : oEn a k = true) (h : iEn m S) : iEn m (setI S a k v) := by
  simp only [oEn, Bool.not_eq_true', Bool.or_eq_false_iff, beq_eq_false_iff_ne, Bool.and_eq_false_iff, decide_eq_false_iff_not] at ho
  exact h.frame (fun b hb => setI_row _ _ _ _ (by unfold rwEn at hb; omega)) (fun j hj => setI_off _ (by unfold slEn at hj; omega)) rfl
def oSg (a k : Nat) : Bool := !(a == 10 || (12 ≤ a && a ≤ 27) || (84 ≤ a && a ≤ 87) || (a == 69 && k == 34) || (a == 7 && k == 6))
theorem iSg.w {S : mM} {a k : Nat} {v : Int32} (ho : oSg a k = true) (h : iSg S) : iSg (setI S a k v) := by
  simp only [oSg, Bool.not_eq_true', Bool.or_eq_false_iff, beq_eq_false_iff_ne, Bool.and_eq_false_iff, decide_eq_false_iff_not] at ho
  exact h.frame (fun b hb => setI_row _ _ _ _ (by unfold rwSg at hb; omega)) (setI_off _ (by omega)) (setI_off _ (by omega))
def oSh (a : Nat) : Bool := !((45 ≤ a && a ≤ 52) || (88 ≤ a && a ≤ 90))
theorem iSh.w {S : mM} {a k : Nat} {v : Int32} (ho : oSh a = true) (h : iSh S) : iSh (setI S a k v) := by
  simp only [oSh, Bool.not_eq_true', Bool.or_eq_false_iff, Bool.and_eq_false_iff, decide_eq_false_iff_not] at ho
  exact h.frame (fun b hb => setI_row _ _ _ _ (by unfold rwSh at hb; omega))
def oRw (a : Nat) : Bool := !((54 ≤ a && a ≤ 65) || (91 ≤ a && a ≤ 93))
theorem iRw.w {S : mM} {a k : Nat} {v : Int32} (ho : oRw a = true) (h : iRw S) : iRw (setI S a k v) := by
  simp only [oRw, Bool.not_eq_true', Bool.or_eq_false_iff, Bool.and_eq_false_iff, decide_eq_false_iff_not] at ho
  exact h.frame (fun b hb => setI_row _ _ _ _ (by unfold rwRw at hb; omega)) (fun _ _ => rfl)
def oWr (a k : Nat) : Bool := !((66 ≤ a && a ≤ 68) || a == 96 || a == 97 || (a == 69 && (k == 48 || k == 51)))
theorem iWr.w {S : mM} {a k : Nat} {v : Int32} (ho : oWr a k = true) (h : iWr S) : iWr (setI S a k v) := by
  simp only [oWr, Bool.not_eq_true', Bool.or_eq_false_iff, beq_eq_false_iff_ne, Bool.and_eq_false_iff, decide_eq_false_iff_not] at ho
  exact h.frame (fun b hb => setI_row _ _ _ _ (by unfold rwWr at hb; omega)) (setI_off _ (by omega)) (setI_off _ (by omega))
def oFt (a k : Nat) : Bool := !((a == 6 && k == 3) || (a == 69 && k == 18))
theorem iFt_w {S : mM} {a k : Nat} {v : Int32} (ho : oFt a k = true) (h : S.1 6 3 = S.1 69 18) : (setI S a k v).1 6 3 = (setI S a k v).1 69 18 := by
  simp only [oFt, Bool.not_eq_true', Bool.or_eq_false_iff, beq_eq_false_iff_ne, Bool.and_eq_false_iff] at ho
  rw [setI_off _ (by omega), setI_off _ (by omega)]
  exact h
def oBy (a k : Nat) : Bool := !((a == 0 && k == 6) || (a == 69 && k == 42))
theorem iBy_w {S : mM} {a k : Nat} {v : Int32} (ho : oBy a k = true) (h : S.1 0 6 = S.1 69 42) : (setI S a k v).1 0 6 = (setI S a k v).1 69 42 := by
  simp only [oBy, Bool.not_eq_true', Bool.or_eq_false_iff, beq_eq_false_iff_ne, Bool.and_eq_false_iff] at ho
  rw [setI_off _ (by omega), setI_off _ (by omega)]
  exact h
/-- the parts of Inv, by name -/
def oTpP (S : mM) : Prop := iTp S
