/-! PURE: feed -/
theorem i8_idem (x : Int32) : x.toInt8.toInt32.toInt8.toInt32 = x.toInt8.toInt32 := by
  rw [Int8.toInt8_toInt32]
theorem byte_rel (x : Int64) : (x &&& 255).toInt32 = x.toInt32.toInt8.toInt32 &&& 255 := by
  apply Int32.toBitVec_inj.mp
  have e1 : (255 : Int64).toBitVec = 255#64 := by decide
  have e2 : (255 : Int32).toBitVec = 255#32 := by decide
  simp only [Int64.toBitVec_toInt32, Int64.toBitVec_and, Int32.toBitVec_and, Int8.toBitVec_toInt32, Int32.toBitVec_toInt8, e1, e2]
  apply BitVec.eq_of_getLsbD_eq
  intro i hi
  have hb : ∀ i : Nat, i < 32 → (255#64).getLsbD i = decide (i < 8) ∧ (255#32).getLsbD i = decide (i < 8) := by decide
  simp only [BitVec.getLsbD_setWidth, BitVec.getLsbD_and, BitVec.getLsbD_signExtend, (hb i hi).1, (hb i hi).2, hi, decide_true, Bool.true_and]
  by_cases h8 : i < 8
  · simp [h8]
    rw [if_pos (by omega), if_pos (by omega)]
  · simp [h8]
    intro q
    omega
def sh (m : Nat) : Int32 := nI (8 * m) - 8
theorem sh_0 : sh 0 < 0 := by decide
theorem sh_s {m : Nat} (h : m < 8) : sh (m + 1) = nI (8 * m) := (by decide : ∀ m, m < 8 → sh (m + 1) = nI (8 * m)) m h
theorem sh_n {m : Nat} (h : m < 8) : ¬ sh (m + 1) < 0 := (by decide : ∀ m, m < 8 → ¬ sh (m + 1) < 0) m h
theorem sh_d {m : Nat} (h : m < 8) : sh (m + 1) + (-8) = sh m := (by decide : ∀ m, m < 8 → sh (m + 1) + (-8) = sh m) m h
def cb (v : Int64) (q : Nat) : Int32 := vp_nar .byte (((v >>> ((nI (8 * q)).toInt64 &&& 63)).toInt32).toInt8.toInt32)
def rb (v : Int64) (q : Nat) : Int32 := ((v >>> ((nI (8 * q)).toInt64 &&& 63)) &&& (255 : Int64)).toInt32
theorem rb_cb (v : Int64) (q : Nat) : rb v q = cb v q &&& 255 := by
  unfold rb cb
  rw [nar_byte, i8_idem, byte_rel]
theorem cb_8 (v : Int64) (q : Nat) : (cb v q).toInt8.toInt32 = cb v q := by
  unfold cb
  rw [nar_byte, i8_idem, i8_idem]
theorem append_loop {v : Int64} : ∀ (m f n : Nat) (S : mM), m ≤ 8 → n + m ≤ 200 → S.1 1 1 = nI n → m < f →
    ∃ S', f_X9_append_15 f v (sh m) S = some (1, S') ∧ S'.1 1 1 = nI (n + m) ∧ (∀ k, S'.1 2 k = if n ≤ k ∧ k < n + m then cb v (n + m - 1 - k) else S.1 2 k) ∧ (∀ b, b ≠ 1 → b ≠ 2 → S'.1 b = S.1 b) ∧ S'.2 = S.2
  | 0, f + 1, n, S, _, _, h, _ => by
    refine ⟨S, ?_, h, fun k => ?_, fun _ _ _ => rfl, rfl⟩
    · unfold f_X9_append_15
      rw [if_pos sh_0]
    · rw [if_neg (by omega)]
  | m + 1, f + 1, n, S, hm, hn, h, hf => by
    have e0 : (setI S 2 n (cb v m)).1 1 1 = nI n := by rw [setI_row _ _ _ _ (by omega)]; exact h
    obtain ⟨S', h1, h2, h3, h4, h5⟩ := append_loop (v := v) m f (n + 1) (setI (setI S 2 n (cb v m)) 1 1 (nI (n + 1))) (by omega) (by omega) (setI_same _ _ _ _) (by omega)
    refine ⟨S', ?_, by rw [h2]; congr 1; omega, fun k => ?_, fun b q1 q2 => ?_, h5⟩
    · unfold f_X9_append_15
      rw [if_neg (sh_n (by omega)), h, if_pos (ix (show n < 200 by omega) (by omega)), nI_clamp (by omega), sh_d (by omega), sh_s (by omega)]
      simp only [bnd]
      have e0' : (setI S 2 n (vp_nar FieldType.byte (v >>> ((nI (8 * m)).toInt64 &&& 63)).toInt32.toInt8.toInt32)).1 1 1 = nI n := e0
      rw [e0', nI_1]
      exact h1
    · rw [h3 k, setI_row _ _ _ _ (by omega), setI_1]
      by_cases e : k = n
      · subst e
        rw [if_neg (by omega), if_pos ⟨rfl, rfl⟩, if_pos (by omega)]
        congr 1
        omega
      · rw [if_neg (show ¬ (2 = 2 ∧ k = n) from fun q => e q.2)]
        by_cases q : n ≤ k ∧ k < n + (m + 1)
        · rw [if_pos (by omega), if_pos q]
          congr 1
          omega
        · rw [if_neg (by omega), if_neg q]
    · rw [h4 b q1 q2, setI_row _ _ _ _ q1, setI_row _ _ _ _ q2]
theorem feed_loop {v : Int64} : ∀ (m f n : Nat) (S : mM), m ≤ 8 → n + m ≤ 200 → S.1 69 1 = nI n → m < f →
    ∃ S', f_X12_feed_19 f v (sh m) S = some (nI (n + m), S') ∧ S'.1 69 1 = nI (n + m) ∧ (∀ k, S'.1 70 k = if n ≤ k ∧ k < n + m then rb v (n + m - 1 - k) else S.1 70 k) ∧ (∀ b, b ≠ 69 → b ≠ 70 → S'.1 b = S.1 b) ∧ (∀ k, k ≠ 1 → S'.1 69 k = S.1 69 k) ∧ S'.2 = S.2
  | 0, f + 1, n, S, _, _, h, _ => by
    refine ⟨S, ?_, h, fun k => ?_, fun _ _ _ => rfl, fun _ _ => rfl, rfl⟩
    · unfold f_X12_feed_19
      rw [if_pos sh_0, h]
      rfl
    · rw [if_neg (by omega)]
  | m + 1, f + 1, n, S, hm, hn, h, hf => by
    have e0 : (setI S 70 n (rb v m)).1 69 1 = nI n := by rw [setI_row _ _ _ _ (by omega)]; exact h
    obtain ⟨S', h1, h2, h3, h4, h6, h5⟩ := feed_loop (v := v) m f (n + 1) (setI (setI S 70 n (rb v m)) 69 1 (nI (n + 1))) (by omega) (by omega) (setI_same _ _ _ _) (by omega)
    refine ⟨S', ?_, by rw [h2]; congr 1; omega, fun k => ?_, fun b q1 q2 => ?_, fun k hk => ?_, h5⟩
    · unfold f_X12_feed_19
      rw [if_neg (sh_n (by omega)), h, if_pos (ix (show n < 200 by omega) (by omega)), nI_clamp (by omega), sh_d (by omega), sh_s (by omega)]
      simp only [bnd]
      have e0' : (setI S 70 n ((v >>> ((nI (8 * m)).toInt64 &&& 63)) &&& (255 : Int64)).toInt32).1 69 1 = nI n := e0
      rw [e0', nI_1]
      rw [show n + (m + 1) = n + 1 + m by omega]
      exact h1
    · rw [h3 k, setI_row _ _ _ _ (by omega), setI_1]
      by_cases e : k = n
      · subst e
        rw [if_neg (by omega), if_pos ⟨rfl, rfl⟩, if_pos (by omega)]
        congr 1
        omega
      · rw [if_neg (show ¬ (70 = 70 ∧ k = n) from fun q => e q.2)]
        by_cases q : n ≤ k ∧ k < n + (m + 1)
        · rw [if_pos (by omega), if_pos q]
          congr 1
          omega
        · rw [if_neg (by omega), if_neg q]
    · rw [h4 b q1 q2, setI_row _ _ _ _ q1, setI_row _ _ _ _ q2]
    · rw [h6 k hk, setI_slot _ _ _ _ hk, setI_row _ _ _ _ (by omega)]
theorem ag_feed (c : Nat) (v : Int64) : Ag c (f_X11_feed v) (f_X12_feed v) := fun _ S h => by
  obtain ⟨n, hn, h1, h2, h3⟩ := h.1
  unfold f_X11_feed f_X9_append f_X12_feed
  rw [h1]
  by_cases hf : n ≤ 192
  · obtain ⟨S1, a1, a2, a3, a4, a5⟩ := append_loop (v := v) 8 mFuel n S (by omega) (by omega) h1 (by unfold mFuel; omega)
    have g2 : S1.1 69 = S.1 69 := a4 69 (by omega) (by omega)
    obtain ⟨S2, b1, b2, b3, b4, b6, b5⟩ := feed_loop (v := v) 8 mFuel n S1 (by omega) (by omega) (by rw [g2]; exact h2) (by unfold mFuel; omega)
    have a1 : f_X9_append_15 mFuel v (56 : Int32) S = some (1, S1) := a1
    have b1 : f_X12_feed_19 mFuel v (56 : Int32) S1 = some (nI (n + 8), S2) := b1
    refine ⟨nI (n + 8), S1, S2, ?_, ?_, ?_⟩
    · rw [if_pos (show nI n ≤ (192 : Int32) from nI_le (b := 192) hf (by omega)), a1, mBind_of, if_neg (by decide), a2]
    · rw [g2, h2, if_pos (show nI n + (8 : Int32) ≤ (200 : Int32) by rw [show nI n + (8 : Int32) = nI (n + 8) from nI_add n 8]; exact nI_le (b := 200) (by omega) (by omega)), b1]
    · have rA : ∀ b, b ≠ 1 → b ≠ 2 → b ≠ 69 → b ≠ 70 → S2.1 b = S.1 b := fun b q1 q2 q3 q4 => by rw [b4 b q3 q4, a4 b q1 q2]
      have r69 : ∀ k, k ≠ 1 → S2.1 69 k = S.1 69 k := fun k hk => by rw [b6 k hk, g2]
      have r2 : S2.2 = S.2 := by rw [b5, a5]
      refine ⟨⟨n + 8, by omega, by rw [b4 1 (by omega) (by omega)]; exact a2, b2, fun k hk => ?_⟩, by rw [rA 6 (by omega) (by omega) (by omega) (by omega), r69 18 (by omega)]; exact h.2.1, (h.2.2.1.mono (by omega)).frame (fun a ha => rA a (by unfold rwEn at ha; omega) (by unfold rwEn at ha; omega) (by unfold rwEn at ha; omega) (by unfold rwEn at ha; omega)) (fun j hj => r69 j (by unfold slEn at hj; omega)) (by rw [r2]), h.2.2.2.1.frame (fun a ha => rA a (by unfold rwSg at ha; omega) (by unfold rwSg at ha; omega) (by unfold rwSg at ha; omega) (by unfold rwSg at ha; omega)) (r69 34 (by omega)) (by rw [rA 7 (by omega) (by omega) (by omega) (by omega)]), h.2.2.2.2.1.frame (fun a ha => rA a (by unfold rwSh at ha; omega) (by unfold rwSh at ha; omega) (by unfold rwSh at ha; omega) (by unfold rwSh at ha; omega)), h.2.2.2.2.2.1.frame (fun a ha => rA a (by unfold rwRw at ha; omega) (by unfold rwRw at ha; omega) (by unfold rwRw at ha; omega) (by unfold rwRw at ha; omega)) (fun a _ => by rw [r2]), by rw [rA 0 (by omega) (by omega) (by omega) (by omega), r69 42 (by omega)]; exact h.2.2.2.2.2.2.1, h.2.2.2.2.2.2.2.frame (fun a ha => rA a (by unfold rwWr at ha; omega) (by unfold rwWr at ha; omega) (by unfold rwWr at ha; omega) (by unfold rwWr at ha; omega)) (r69 48 (by omega)) (r69 51 (by omega))⟩
      rw [b3 k, b4 2 (by omega) (by omega), a3 k]
      by_cases q : n ≤ k ∧ k < n + 8
      · rw [if_pos q, if_pos q]
        exact ⟨rb_cb _ _, cb_8 _ _⟩
      · rw [if_neg q, if_neg q, a4 70 (by omega) (by omega)]
        exact h3 k (by omega)
  · refine ⟨-3, S, S, ?_, ?_, h.mono (by omega)⟩
    · rw [if_neg (show ¬ nI n ≤ (192 : Int32) from nI_ge (a := 192) (by omega) (by omega)), mBind_of]
      rfl
    · rw [h2, if_neg (show ¬ nI n + (8 : Int32) ≤ (200 : Int32) by rw [show nI n + (8 : Int32) = nI (n + 8) from nI_add n 8]; exact nI_ge (a := 200) (by omega) (by omega))]
